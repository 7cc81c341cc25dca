theorem aM_know {N K : Nat} {M : MS} {p0 : Int32} {p1 : Int32} {p2 : Int32} {p3 : Int32} (hN : NBig N) (hK : 100 ≤ K) (h : OkN M) : Sf (gM_know N K M p0 p1 p2 p3) (fun (z : Int32 × MS) => OkN z.2 ∧ t5 z.2 = t5 M ∧ Um false true true M z.2) := by
  unfold gM_know
  exact sMap ((s_X7_know hN hK).fr r_X7_know) (fun z q => And.intro h (And.intro q.2 (And.intro (fun e => Bool.noConfusion e) (And.intro (fun _ => rfl) (fun _ => rfl)))))
theorem aM_few {N K : Nat} {M : MS} {p0 : Int32} {p1 : Int32} {p2 : Int32} (hN : NBig N) (hK : 100 ≤ K) (h : OkN M) : Sf (gM_few N K M p0 p1 p2) (fun (z : Int32 × MS) => OkN z.2 ∧ t5 z.2 = t5 M ∧ Um false true true M z.2) := by
  unfold gM_few
  exact sMap ((s_X7_few hN hK).fr r_X7_few) (fun z q => And.intro h (And.intro q.2 (And.intro (fun e => Bool.noConfusion e) (And.intro (fun _ => rfl) (fun _ => rfl)))))
theorem aM_surplus {N K : Nat} {M : MS} {p0 : Int32} {p1 : Int32} (hN : NBig N) (hK : 100 ≤ K) (h : OkN M) : Sf (gM_surplus N K M p0 p1) (fun (z : Int32 × MS) => OkN z.2 ∧ t5 z.2 = t5 M ∧ Um false true true M z.2) := by
  unfold gM_surplus
  exact sMap ((s_X7_surplus hN hK).fr r_X7_surplus) (fun z q => And.intro h (And.intro q.2 (And.intro (fun e => Bool.noConfusion e) (And.intro (fun _ => rfl) (fun _ => rfl)))))
theorem aM_place {N K : Nat} {M : MS} {p0 : Int32} {p1 : Int32} (hN : NBig N) (hK : 100 ≤ K) (h : OkN M) : Sf (gM_place N K M p0 p1) (fun (z : Int32 × MS) => OkN z.2 ∧ t5 z.2 = t5 M ∧ Um false true true M z.2) := by
  unfold gM_place
  exact sMap ((s_X7_place hN hK (h _)).fr r_X7_place) (fun z q => And.intro h (And.intro q.2 (And.intro (fun e => Bool.noConfusion e) (And.intro (fun _ => rfl) (fun _ => rfl)))))
theorem aM_learn {N K : Nat} {M : MS} {p0 : Int32} {p1 : Int32} {p2 : Int32} {p3 : Int32} (hN : NBig N) (hK : 100 ≤ K) (h : OkN M) : Sf (gM_learn N K M p0 p1 p2 p3) (fun (z : Int32 × MS) => OkN z.2 ∧ t5 z.2 = t5 M ∧ Um false true true M z.2) := by
  unfold gM_learn
  exact sMap ((s_X7_learn hN hK).fr r_X7_learn) (fun z q => And.intro h (And.intro q.2 (And.intro (fun e => Bool.noConfusion e) (And.intro (fun _ => rfl) (fun _ => rfl)))))
theorem aM_relearn {N K : Nat} {M : MS} {p0 : Int32} {p1 : Int32} {p2 : Int32} {p3 : Int32} (hN : NBig N) (hK : 100 ≤ K) (h : OkN M) : Sf (gM_relearn N K M p0 p1 p2 p3) (fun (z : Int32 × MS) => OkN z.2 ∧ t5 z.2 = t5 M ∧ Um false true true M z.2) := by
  unfold gM_relearn
  exact sMap ((s_X7_relearn hN hK).fr r_X7_relearn) (fun z q => And.intro h (And.intro q.2 (And.intro (fun e => Bool.noConfusion e) (And.intro (fun _ => rfl) (fun _ => rfl)))))
theorem aM_forget {N K : Nat} {M : MS} {p0 : Int32} {p1 : Int32} {p2 : Int32} {p3 : Int32} (hN : NBig N) (hK : 100 ≤ K) (h : OkN M) : Sf (gM_forget N K M p0 p1 p2 p3) (fun (z : Int32 × MS) => OkN z.2 ∧ t5 z.2 = t5 M ∧ Um false true true M z.2) := by
  unfold gM_forget
  exact sMap ((s_X7_forget hN hK).fr r_X7_forget) (fun z q => And.intro h (And.intro q.2 (And.intro (fun e => Bool.noConfusion e) (And.intro (fun _ => rfl) (fun _ => rfl)))))
theorem aM_forgetIf {N K : Nat} {M : MS} {p0 : Int32} {p1 : Int32} {p2 : Int32} {p3 : Int32} {p4 : Int32} (hN : NBig N) (hK : 100 ≤ K) (h : OkN M) : Sf (gM_forgetIf N K M p0 p1 p2 p3 p4) (fun (z : Int32 × MS) => OkN z.2 ∧ t5 z.2 = t5 M ∧ Um false true true M z.2) := by
  unfold gM_forgetIf
  exact sMap ((s_X7_forgetIf hN hK).fr r_X7_forgetIf) (fun z q => And.intro h (And.intro q.2 (And.intro (fun e => Bool.noConfusion e) (And.intro (fun _ => rfl) (fun _ => rfl)))))
theorem aM_forgetAll {N K : Nat} {M : MS} {p0 : Int32} {p1 : Int32} {p2 : Int32} (hN : NBig N) (hK : 100 ≤ K) (h : OkN M) : Sf (gM_forgetAll N K M p0 p1 p2) (fun (z : Int32 × MS) => OkN z.2 ∧ t5 z.2 = t5 M ∧ Um false true true M z.2) := by
  unfold gM_forgetAll
  exact sMap ((s_X7_forgetAll hN hK).fr r_X7_forgetAll) (fun z q => And.intro h (And.intro q.2 (And.intro (fun e => Bool.noConfusion e) (And.intro (fun _ => rfl) (fun _ => rfl)))))
theorem aM_clear {N K : Nat} {M : MS} {p0 : Int32} (hN : NBig N) (hK : 100 ≤ K) (h : OkN M) : Sf (gM_clear N K M p0) (fun (z : Int32 × MS) => OkN z.2 ∧ t5 z.2 = t5 M ∧ Um false true true M z.2) := by
  unfold gM_clear
  exact sMap ((s_X7_clear hN hK).fr r_X7_clear) (fun z q => And.intro h (And.intro q.2 (And.intro (fun e => Bool.noConfusion e) (And.intro (fun _ => rfl) (fun _ => rfl)))))
theorem aM_copy {N K : Nat} {M : MS} {p0 : Int32} {p1 : Int32} (hN : NBig N) (hK : 100 ≤ K) (h : OkN M) : Sf (gM_copy N K M p0 p1) (fun (z : Int32 × MS) => OkN z.2 ∧ t5 z.2 = t5 M ∧ Um false true true M z.2) := by
  unfold gM_copy
  by_cases e0 : p0 = p1
  · rw [if_pos e0]
    exact sMap ((s_X7_copyOwn hN hK).fr r_X7_copyOwn) (fun z q => And.intro h (And.intro q.2 (And.intro (fun e => Bool.noConfusion e) (And.intro (fun _ => rfl) (fun _ => rfl)))))
  · rw [if_neg e0]
    exact sMap ((s_X7_copy hN hK).fr r_X7_copy) (fun z q => And.intro h (And.intro q.2 (And.intro (fun e => Bool.noConfusion e) (And.intro (fun _ => rfl) (fun _ => rfl)))))
theorem aM_pour {N K : Nat} {M : MS} {p0 : Int32} {p1 : Int32} (hN : NBig N) (hK : 100 ≤ K) (h : OkN M) : Sf (gM_pour N K M p0 p1) (fun (z : Int32 × MS) => OkN z.2 ∧ t5 z.2 = t5 M ∧ Um false true true M z.2) := by
  unfold gM_pour
  by_cases e0 : p0 = p1
  · rw [if_pos e0]
    exact sMap ((s_X7_pourOwn hN hK).fr r_X7_pourOwn) (fun z q => And.intro h (And.intro q.2 (And.intro (fun e => Bool.noConfusion e) (And.intro (fun _ => rfl) (fun _ => rfl)))))
  · rw [if_neg e0]
    exact sMap ((s_X7_pour hN hK).fr r_X7_pour) (fun z q => And.intro h (And.intro q.2 (And.intro (fun e => Bool.noConfusion e) (And.intro (fun _ => rfl) (fun _ => rfl)))))
theorem aM_isKept {N K : Nat} {M : MS} {p0 : Int32} {p1 : Int32} {p2 : Int32} {p3 : Int32} {p4 : Int32} (hN : NBig N) (hK : 100 ≤ K) (h : OkN M) : Sf (gM_isKept N K M p0 p1 p2 p3 p4) (fun (z : Int32 × MS) => OkN z.2 ∧ t5 z.2 = t5 M ∧ Um true true true M z.2) := by
  unfold gM_isKept
  exact sMap (s_X7_isKept hN hK) (fun z q => And.intro h (And.intro rfl (And.intro (fun _ => rfl) (And.intro (fun _ => rfl) (fun _ => rfl)))))
theorem aM_worthOr {N K : Nat} {M : MS} {p0 : Int32} {p1 : Int32} {p2 : Int32} {p3 : Int32} {p4 : Int32} (hN : NBig N) (hK : 100 ≤ K) (h : OkN M) : Sf (gM_worthOr N K M p0 p1 p2 p3 p4) (fun (z : Int32 × MS) => OkN z.2 ∧ t5 z.2 = t5 M ∧ Um true true true M z.2) := by
  unfold gM_worthOr
  exact sMap (s_X7_worthOr hN hK) (fun z q => And.intro h (And.intro rfl (And.intro (fun _ => rfl) (And.intro (fun _ => rfl) (fun _ => rfl)))))
theorem aM_confirm {N K : Nat} {M : MS} {p0 : Int32} {p1 : Int32} {p2 : Int32} {p3 : Int32} {p4 : Int32} (hN : NBig N) (hK : 100 ≤ K) (h : OkN M) : Sf (gM_confirm N K M p0 p1 p2 p3 p4) (fun (z : Int32 × MS) => OkN z.2 ∧ t5 z.2 = t5 M ∧ Um true true true M z.2) := by
  unfold gM_confirm
  exact sMap (s_X7_confirm hN hK) (fun z q => And.intro h (And.intro rfl (And.intro (fun _ => rfl) (And.intro (fun _ => rfl) (fun _ => rfl)))))
theorem aM_about {N K : Nat} {M : MS} {p0 : Int32} {p1 : Int32} (hN : NBig N) (hK : 100 ≤ K) (h : OkN M) : Sf (gM_about N K M p0 p1) (fun (z : Int32 × MS) => OkN z.2 ∧ t5 z.2 = t5 M ∧ Um true true true M z.2) := by
  unfold gM_about
  exact sMap (s_X7_about hN hK) (fun z q => And.intro h (And.intro rfl (And.intro (fun _ => rfl) (And.intro (fun _ => rfl) (fun _ => rfl)))))
theorem aM_has {N K : Nat} {M : MS} {p0 : Int32} {p1 : Int32} (hN : NBig N) (hK : 100 ≤ K) (h : OkN M) : Sf (gM_has N K M p0 p1) (fun (z : Int32 × MS) => OkN z.2 ∧ t5 z.2 = t5 M ∧ Um true true true M z.2) := by
  unfold gM_has
  exact sMap (s_X7_has hN hK) (fun z q => And.intro h (And.intro rfl (And.intro (fun _ => rfl) (And.intro (fun _ => rfl) (fun _ => rfl)))))
theorem aM_count {N K : Nat} {M : MS} {p0 : Int32} {p1 : Int32} {p2 : Int32} (hN : NBig N) (hK : 100 ≤ K) (h : OkN M) : Sf (gM_count N K M p0 p1 p2) (fun (z : Int32 × MS) => OkN z.2 ∧ t5 z.2 = t5 M ∧ Um true true true M z.2) := by
  unfold gM_count
  exact sMap (s_X7_count hN hK) (fun z q => And.intro h (And.intro rfl (And.intro (fun _ => rfl) (And.intro (fun _ => rfl) (fun _ => rfl)))))
theorem aM_isSame {N K : Nat} {M : MS} {p0 : Int32} {p1 : Int32} (hN : NBig N) (hK : 100 ≤ K) (h : OkN M) : Sf (gM_isSame N K M p0 p1) (fun (z : Int32 × MS) => OkN z.2 ∧ t5 z.2 = t5 M ∧ Um true true true M z.2) := by
  unfold gM_isSame
  by_cases e0 : p0 = p1
  · rw [if_pos e0]
    exact sMap (s_X7_isSameOwn hN hK) (fun z q => And.intro h (And.intro rfl (And.intro (fun _ => rfl) (And.intro (fun _ => rfl) (fun _ => rfl)))))
  · rw [if_neg e0]
    exact sMap (s_X7_isSame hN hK) (fun z q => And.intro h (And.intro rfl (And.intro (fun _ => rfl) (And.intro (fun _ => rfl) (fun _ => rfl)))))
theorem aM_walk {N K : Nat} {M : MS} {p0 : Int32} {p1 : Int32} {p2 : Int32} (hN : NBig N) (hK : 100 ≤ K) (h : OkN M) : Sf (gM_walk N K M p0 p1 p2) (fun (z : Int32 × MS) => OkN z.2 ∧ t5 z.2 = t5 M ∧ Um true true true M z.2) := by
  unfold gM_walk
  exact sMap (s_X7_walk hN hK) (fun z q => And.intro h (And.intro rfl (And.intro (fun _ => rfl) (And.intro (fun _ => rfl) (fun _ => rfl)))))
theorem aM_product {N K : Nat} {M : MS} {p0 : Int32} {p1 : Int32} {p2 : Int32} (hN : NBig N) (hK : 100 ≤ K) (h : OkN M) : Sf (gM_product N K M p0 p1 p2) (fun (z : Int32 × MS) => OkN z.2 ∧ t5 z.2 = t5 M ∧ Um true true true M z.2) := by
  unfold gM_product
  exact sMap (s_X7_product hN hK) (fun z q => And.intro h (And.intro rfl (And.intro (fun _ => rfl) (And.intro (fun _ => rfl) (fun _ => rfl)))))
theorem aM_rule {N K : Nat} {M : MS} {p0 : Int32} {p1 : Int32} (hN : NBig N) (hK : 100 ≤ K) (h : OkN M) : Sf (gM_rule N K M p0 p1) (fun (z : Int32 × MS) => OkN z.2 ∧ t5 z.2 = t5 M ∧ Um true false true M z.2) := by
  unfold gM_rule
  exact sMap ((s_X7_rule hN hK).fr r_X7_rule) (fun z q => And.intro h (And.intro q.2 (And.intro (fun _ => rfl) (And.intro (fun e => Bool.noConfusion e) (fun _ => rfl)))))
theorem aM_forgetRule {N K : Nat} {M : MS} {p0 : Int32} {p1 : Int32} (hN : NBig N) (hK : 100 ≤ K) (h : OkN M) : Sf (gM_forgetRule N K M p0 p1) (fun (z : Int32 × MS) => OkN z.2 ∧ t5 z.2 = t5 M ∧ Um true false true M z.2) := by
  unfold gM_forgetRule
  exact sMap ((s_X7_forgetRule hN hK).fr r_X7_forgetRule) (fun z q => And.intro h (And.intro q.2 (And.intro (fun _ => rfl) (And.intro (fun e => Bool.noConfusion e) (fun _ => rfl)))))
theorem aM_ledger {N K : Nat} {M : MS} {p0 : Int32} {p1 : Int32} (hN : NBig N) (hK : 100 ≤ K) (h : OkN M) : Sf (gM_ledger N K M p0 p1) (fun (z : Int32 × MS) => OkN z.2 ∧ t5 z.2 = t5 M ∧ Um true true true M z.2) := by
  unfold gM_ledger
  exact sMap (s_X7_ledger hN hK) (fun z q => And.intro h (And.intro rfl (And.intro (fun _ => rfl) (And.intro (fun _ => rfl) (fun _ => rfl)))))
theorem aM_ruleWorth {N K : Nat} {M : MS} {p0 : Int32} {p1 : Int32} {p2 : Int32} (hN : NBig N) (hK : 100 ≤ K) (h : OkN M) : Sf (gM_ruleWorth N K M p0 p1 p2) (fun (z : Int32 × MS) => OkN z.2 ∧ t5 z.2 = t5 M ∧ Um true true true M z.2) := by
  unfold gM_ruleWorth
  exact sMap (s_X7_ruleWorth hN hK) (fun z q => And.intro h (And.intro rfl (And.intro (fun _ => rfl) (And.intro (fun _ => rfl) (fun _ => rfl)))))
theorem aM_addPart {N K : Nat} {M : MS} {p0 : Int32} {p1 : Int32} {p2 : Int32} (hN : NBig N) (hK : 100 ≤ K) (h : OkN M) : Sf (gM_addPart N K M p0 p1 p2) (fun (z : Int32 × MS) => OkN z.2 ∧ t5 z.2 = t5 M ∧ Um true true false M z.2) := by
  unfold gM_addPart
  exact sMap ((s_X7_addPart hN hK (h _)).fr r_X7_addPart) (fun z q => And.intro (okd_upm h q.1.2.2.1) (And.intro q.2 (And.intro (fun _ => rfl) (And.intro (fun _ => rfl) (fun e => Bool.noConfusion e)))))
theorem aM_takePart {N K : Nat} {M : MS} {p0 : Int32} {p1 : Int32} (hN : NBig N) (hK : 100 ≤ K) (h : OkN M) : Sf (gM_takePart N K M p0 p1) (fun (z : Int32 × MS) => OkN z.2 ∧ t5 z.2 = t5 M ∧ Um true true false M z.2) := by
  unfold gM_takePart
  exact sMap ((s_X7_takePart hN hK (h _)).fr r_X7_takePart) (fun z q => And.intro (okd_upm h q.1.2.2.1) (And.intro q.2 (And.intro (fun _ => rfl) (And.intro (fun _ => rfl) (fun e => Bool.noConfusion e)))))
theorem aM_layFirst {N K : Nat} {M : MS} {p0 : Int32} {p1 : Int32} (hN : NBig N) (hK : 100 ≤ K) (h : OkN M) : Sf (gM_layFirst N K M p0 p1) (fun (z : Int32 × MS) => OkN z.2 ∧ t5 z.2 = t5 M ∧ Um true true false M z.2) := by
  unfold gM_layFirst
  exact sMap ((s_X7_layFirst hN hK (h _)).fr r_X7_layFirst) (fun z q => And.intro (okd_upm h q.1.2.2.1) (And.intro q.2 (And.intro (fun _ => rfl) (And.intro (fun _ => rfl) (fun e => Bool.noConfusion e)))))
theorem aM_next {N K : Nat} {M : MS} {p0 : Int32} (hN : NBig N) (hK : 100 ≤ K) (h : OkN M) : Sf (gM_next N K M p0) (fun (z : Int32 × MS) => OkN z.2 ∧ t5 z.2 = t5 M ∧ Um true true false M z.2) := by
  unfold gM_next
  exact sMap ((s_X7_next hN hK (h _)).fr r_X7_next) (fun z q => And.intro (okd_upm h q.1.2.2.1) (And.intro q.2 (And.intro (fun _ => rfl) (And.intro (fun _ => rfl) (fun e => Bool.noConfusion e)))))
theorem aM_turn {N K : Nat} {M : MS} {p0 : Int32} (hN : NBig N) (hK : 100 ≤ K) (h : OkN M) : Sf (gM_turn N K M p0) (fun (z : Int32 × MS) => OkN z.2 ∧ t5 z.2 = t5 M ∧ Um true true false M z.2) := by
  unfold gM_turn
  exact sMap ((s_X7_turn hN hK (h _)).fr r_X7_turn) (fun z q => And.intro (okd_upm h q.1.2.2.2.2.1) (And.intro q.2 (And.intro (fun _ => rfl) (And.intro (fun _ => rfl) (fun e => Bool.noConfusion e)))))
theorem aM_toUnlike {N K : Nat} {M : MS} {p0 : Int32} (hN : NBig N) (hK : 100 ≤ K) (h : OkN M) : Sf (gM_toUnlike N K M p0) (fun (z : Int32 × MS) => OkN z.2 ∧ t5 z.2 = t5 M ∧ Um true true false M z.2) := by
  unfold gM_toUnlike
  exact sMap ((s_X7_toUnlike hN hK (h _)).fr r_X7_toUnlike) (fun z q => And.intro (okd_upm h q.1.2.2.1) (And.intro q.2 (And.intro (fun _ => rfl) (And.intro (fun _ => rfl) (fun e => Bool.noConfusion e)))))
theorem aM_toOdd {N K : Nat} {M : MS} {p0 : Int32} (hN : NBig N) (hK : 100 ≤ K) (h : OkN M) : Sf (gM_toOdd N K M p0) (fun (z : Int32 × MS) => OkN z.2 ∧ t5 z.2 = t5 M ∧ Um true true false M z.2) := by
  unfold gM_toOdd
  exact sMap ((s_X7_toOdd hN hK (h _)).fr r_X7_toOdd) (fun z q => And.intro (okd_upm h q.1.2.2.1) (And.intro q.2 (And.intro (fun _ => rfl) (And.intro (fun _ => rfl) (fun e => Bool.noConfusion e)))))
theorem aM_copyDesk {N K : Nat} {M : MS} {p0 : Int32} (hN : NBig N) (hK : 100 ≤ K) (h : OkN M) : Sf (gM_copyDesk N K M p0) (fun (z : Int32 × MS) => OkN z.2 ∧ t5 z.2 = t5 M ∧ Um true true false M z.2) := by
  unfold gM_copyDesk
  exact sMap ((s_X7_copyDesk hN hK (h _) (h _)).fr r_X7_copyDesk) (fun z q => And.intro (okd_upm h q.1.2.2.1) (And.intro q.2 (And.intro (fun _ => rfl) (And.intro (fun _ => rfl) (fun e => Bool.noConfusion e)))))
theorem aM_times {N K : Nat} {M : MS} {p0 : Int32} {p1 : Int32} (hN : NBig N) (hK : 100 ≤ K) (h : OkN M) : Sf (gM_times N K M p0 p1) (fun (z : Int32 × MS) => OkN z.2 ∧ t5 z.2 = t5 M ∧ Um true true true M z.2) := by
  unfold gM_times
  exact sMap (s_X7_times hN hK) (fun z q => And.intro h (And.intro rfl (And.intro (fun _ => rfl) (And.intro (fun _ => rfl) (fun _ => rfl)))))
theorem aM_way {N K : Nat} {M : MS} {p0 : Int32} {p1 : Int32} (hN : NBig N) (hK : 100 ≤ K) (h : OkN M) : Sf (gM_way N K M p0 p1) (fun (z : Int32 × MS) => OkN z.2 ∧ t5 z.2 = t5 M ∧ Um true true true M z.2) := by
  unfold gM_way
  exact sMap (s_X7_way hN hK (h _)) (fun z q => And.intro h (And.intro rfl (And.intro (fun _ => rfl) (And.intro (fun _ => rfl) (fun _ => rfl)))))
theorem aM_wayText {N K : Nat} {M : MS} {p0 : Int32} (hN : NBig N) (hK : 100 ≤ K) (h : OkN M) : Sf (gM_wayText N K M p0) (fun (z : MS) => OkN z ∧ t5 z = t5 M ∧ Um true true true M z) := by
  unfold gM_wayText
  exact sMap (s_X7_wayText hN hK (h _)) (fun z q => And.intro h (And.intro rfl (And.intro (fun _ => rfl) (And.intro (fun _ => rfl) (fun _ => rfl)))))
theorem aM_isOf {N K : Nat} {M : MS} {p0 : Int32} {p1 : Int32} {p2 : Int32} (hN : NBig N) (hK : 100 ≤ K) (h : OkN M) : Sf (gM_isOf N K M p0 p1 p2) (fun (z : Int32 × MS) => OkN z.2 ∧ t5 z.2 = t5 M ∧ Um true true true M z.2) := by
  unfold gM_isOf
  exact sMap (s_X7_isOf hN hK) (fun z q => And.intro h (And.intro rfl (And.intro (fun _ => rfl) (And.intro (fun _ => rfl) (fun _ => rfl)))))
theorem aM_isSameWay {N K : Nat} {M : MS} (hN : NBig N) (hK : 100 ≤ K) (h : OkN M) : Sf (gM_isSameWay N K M ) (fun (z : Int32 × MS) => OkN z.2 ∧ t5 z.2 = t5 M ∧ Um true true true M z.2) := by
  unfold gM_isSameWay
  exact sMap (s_X7_isSameWay hN hK) (fun z q => And.intro h (And.intro rfl (And.intro (fun _ => rfl) (And.intro (fun _ => rfl) (fun _ => rfl)))))
theorem aM_tally {N K : Nat} {M : MS} {p0 : Int32} (hN : NBig N) (hK : 100 ≤ K) (h : OkN M) : Sf (gM_tally N K M p0) (fun (z : Int32 × MS) => OkN z.2 ∧ t5 z.2 = t5 M ∧ Um true true true M z.2) := by
  unfold gM_tally
  exact sMap (s_X7_tally hN hK) (fun z q => And.intro h (And.intro rfl (And.intro (fun _ => rfl) (And.intro (fun _ => rfl) (fun _ => rfl)))))
theorem aM_isSound {N K : Nat} {M : MS} {p0 : Int32} (hN : NBig N) (hK : 100 ≤ K) (h : OkN M) : Sf (gM_isSound N K M p0) (fun (z : Int32 × MS) => OkN z.2 ∧ t5 z.2 = t5 M ∧ Um true true true M z.2) := by
  unfold gM_isSound
  exact sMap (s_X7_isSound hN hK) (fun z q => And.intro h (And.intro rfl (And.intro (fun _ => rfl) (And.intro (fun _ => rfl) (fun _ => rfl)))))
theorem aM_digest {N K : Nat} {M : MS} (hN : NBig N) (hK : 100 ≤ K) (h : OkN M) : Sf (gM_digest N K M ) (fun (z : Int64 × MS) => OkN z.2 ∧ t5 z.2 = t5 M ∧ Um true true true M z.2) := by
  unfold gM_digest
  exact sMap (s_X7_digest hN hK (h _) (h _)) (fun z q => And.intro h (And.intro rfl (And.intro (fun _ => rfl) (And.intro (fun _ => rfl) (fun _ => rfl)))))
theorem lL_know {N K : Nat} {S : CS} {p0 : Int32} {p1 : Int32} {p2 : Int32} {p3 : Int32} {nv : Int64} (hN : NBig N) (hK : 100 ≤ K) (h : OkX S) : Sf (gL_know N K S p0 p1 p2 p3 nv) (fun z => OkX z.2.1 ∧ c5 z.2.1 = c5 S ∧ Ux false true true S z.2.1) := by
  unfold gL_know
  exact sWb (aX_know hN hK h) (fun z q => sRet q) (fun _ => sRet (And.intro h (And.intro rfl Ux.r))) (fun _ => sRet (And.intro h (And.intro rfl Ux.r)))
theorem lL_few {N K : Nat} {S : CS} {p0 : Int32} {p1 : Int32} {p2 : Int32} {nv : Int64} (hN : NBig N) (hK : 100 ≤ K) (h : OkX S) : Sf (gL_few N K S p0 p1 p2 nv) (fun z => OkX z.2.1 ∧ c5 z.2.1 = c5 S ∧ Ux false true true S z.2.1) := by
  unfold gL_few
  exact sWb (aX_few hN hK h) (fun z q => sRet q) (fun _ => sRet (And.intro h (And.intro rfl Ux.r))) (fun _ => sRet (And.intro h (And.intro rfl Ux.r)))
theorem lL_surplus {N K : Nat} {S : CS} {p0 : Int32} {p1 : Int32} {nv : Int64} (hN : NBig N) (hK : 100 ≤ K) (h : OkX S) : Sf (gL_surplus N K S p0 p1 nv) (fun z => OkX z.2.1 ∧ c5 z.2.1 = c5 S ∧ Ux false true true S z.2.1) := by
  unfold gL_surplus
  exact sWb (aX_surplus hN hK h) (fun z q => sRet q) (fun _ => sRet (And.intro h (And.intro rfl Ux.r))) (fun _ => sRet (And.intro h (And.intro rfl Ux.r)))
theorem lL_place {N K : Nat} {S : CS} {p0 : Int32} {p1 : Int32} {nv : Int64} (hN : NBig N) (hK : 100 ≤ K) (h : OkX S) : Sf (gL_place N K S p0 p1 nv) (fun z => OkX z.2.1 ∧ c5 z.2.1 = c5 S ∧ Ux false true true S z.2.1) := by
  unfold gL_place
  exact sWb (aX_place hN hK h) (fun z q => sRet q) (fun _ => sRet (And.intro h (And.intro rfl Ux.r))) (fun e => by cases e)
theorem lL_learn {N K : Nat} {S : CS} {p0 : Int32} {p1 : Int32} {p2 : Int32} {p3 : Int32} {nv : Int64} (hN : NBig N) (hK : 100 ≤ K) (h : OkX S) : Sf (gL_learn N K S p0 p1 p2 p3 nv) (fun z => OkX z.2.1 ∧ c5 z.2.1 = c5 S ∧ Ux false true true S z.2.1) := by
  unfold gL_learn
  exact sWb (aX_learn hN hK h) (fun z q => sRet q) (fun _ => sRet (And.intro h (And.intro rfl Ux.r))) (fun _ => sRet (And.intro h (And.intro rfl Ux.r)))
theorem lL_relearn {N K : Nat} {S : CS} {p0 : Int32} {p1 : Int32} {p2 : Int32} {p3 : Int32} {nv : Int64} (hN : NBig N) (hK : 100 ≤ K) (h : OkX S) : Sf (gL_relearn N K S p0 p1 p2 p3 nv) (fun z => OkX z.2.1 ∧ c5 z.2.1 = c5 S ∧ Ux false true true S z.2.1) := by
  unfold gL_relearn
  exact sWb (aX_relearn hN hK h) (fun z q => sRet q) (fun _ => sRet (And.intro h (And.intro rfl Ux.r))) (fun _ => sRet (And.intro h (And.intro rfl Ux.r)))
theorem lL_forget {N K : Nat} {S : CS} {p0 : Int32} {p1 : Int32} {p2 : Int32} {p3 : Int32} {nv : Int64} (hN : NBig N) (hK : 100 ≤ K) (h : OkX S) : Sf (gL_forget N K S p0 p1 p2 p3 nv) (fun z => OkX z.2.1 ∧ c5 z.2.1 = c5 S ∧ Ux false true true S z.2.1) := by
  unfold gL_forget
  exact sWb (aX_forget hN hK h) (fun z q => sRet q) (fun _ => sRet (And.intro h (And.intro rfl Ux.r))) (fun _ => sRet (And.intro h (And.intro rfl Ux.r)))
theorem lL_forgetIf {N K : Nat} {S : CS} {p0 : Int32} {p1 : Int32} {p2 : Int32} {p3 : Int32} {p4 : Int32} {nv : Int64} (hN : NBig N) (hK : 100 ≤ K) (h : OkX S) : Sf (gL_forgetIf N K S p0 p1 p2 p3 p4 nv) (fun z => OkX z.2.1 ∧ c5 z.2.1 = c5 S ∧ Ux false true true S z.2.1) := by
  unfold gL_forgetIf
  exact sWb (aX_forgetIf hN hK h) (fun z q => sRet q) (fun _ => sRet (And.intro h (And.intro rfl Ux.r))) (fun _ => sRet (And.intro h (And.intro rfl Ux.r)))
theorem lL_forgetAll {N K : Nat} {S : CS} {p0 : Int32} {p1 : Int32} {p2 : Int32} {nv : Int64} (hN : NBig N) (hK : 100 ≤ K) (h : OkX S) : Sf (gL_forgetAll N K S p0 p1 p2 nv) (fun z => OkX z.2.1 ∧ c5 z.2.1 = c5 S ∧ Ux false true true S z.2.1) := by
  unfold gL_forgetAll
  exact sWb (aX_forgetAll hN hK h) (fun z q => sRet q) (fun _ => sRet (And.intro h (And.intro rfl Ux.r))) (fun _ => sRet (And.intro h (And.intro rfl Ux.r)))
theorem lL_clear {N K : Nat} {S : CS} {p0 : Int32} {nv : Int64} (hN : NBig N) (hK : 100 ≤ K) (h : OkX S) : Sf (gL_clear N K S p0 nv) (fun z => OkX z.2.1 ∧ c5 z.2.1 = c5 S ∧ Ux false true true S z.2.1) := by
  unfold gL_clear
  exact sWb (aX_clear hN hK h) (fun z q => sRet q) (fun _ => sRet (And.intro h (And.intro rfl Ux.r))) (fun e => by cases e)
theorem lL_copy {N K : Nat} {S : CS} {p0 : Int32} {p1 : Int32} {nv : Int64} (hN : NBig N) (hK : 100 ≤ K) (h : OkX S) : Sf (gL_copy N K S p0 p1 nv) (fun z => OkX z.2.1 ∧ c5 z.2.1 = c5 S ∧ Ux false true true S z.2.1) := by
  unfold gL_copy
  exact sWb (aX_copy hN hK h) (fun z q => sRet q) (fun _ => sRet (And.intro h (And.intro rfl Ux.r))) (fun e => by cases e)
theorem lL_pour {N K : Nat} {S : CS} {p0 : Int32} {p1 : Int32} {nv : Int64} (hN : NBig N) (hK : 100 ≤ K) (h : OkX S) : Sf (gL_pour N K S p0 p1 nv) (fun z => OkX z.2.1 ∧ c5 z.2.1 = c5 S ∧ Ux false true true S z.2.1) := by
  unfold gL_pour
  exact sWb (aX_pour hN hK h) (fun z q => sRet q) (fun _ => sRet (And.intro h (And.intro rfl Ux.r))) (fun e => by cases e)
theorem lL_isKept {N K : Nat} {S : CS} {p0 : Int32} {p1 : Int32} {p2 : Int32} {p3 : Int32} {p4 : Int32} {nv : Int64} (hN : NBig N) (hK : 100 ≤ K) (h : OkX S) : Sf (gL_isKept N K S p0 p1 p2 p3 p4 nv) (fun z => OkX z.2.1 ∧ c5 z.2.1 = c5 S ∧ Ux true true true S z.2.1) := by
  unfold gL_isKept
  exact sWb (aX_isKept hN hK h) (fun z q => sIf (fun _ => sRet q) (fun _ => sRet q)) (fun _ => sRet (And.intro h (And.intro rfl Ux.r))) (fun _ => sRet (And.intro h (And.intro rfl Ux.r)))
theorem lL_worthOr {N K : Nat} {S : CS} {p0 : Int32} {p1 : Int32} {p2 : Int32} {p3 : Int32} {p4 : Int32} {nv : Int64} (hN : NBig N) (hK : 100 ≤ K) (h : OkX S) : Sf (gL_worthOr N K S p0 p1 p2 p3 p4 nv) (fun z => OkX z.2.1 ∧ c5 z.2.1 = c5 S ∧ Ux true true true S z.2.1) := by
  unfold gL_worthOr
  exact sWb (aX_worthOr hN hK h) (fun z q => sRet q) (fun _ => sRet (And.intro h (And.intro rfl Ux.r))) (fun _ => sRet (And.intro h (And.intro rfl Ux.r)))
theorem lL_confirm {N K : Nat} {S : CS} {p0 : Int32} {p1 : Int32} {p2 : Int32} {p3 : Int32} {p4 : Int32} {nv : Int64} (hN : NBig N) (hK : 100 ≤ K) (h : OkX S) : Sf (gL_confirm N K S p0 p1 p2 p3 p4 nv) (fun z => OkX z.2.1 ∧ c5 z.2.1 = c5 S ∧ Ux true true true S z.2.1) := by
  unfold gL_confirm
  exact sWb (aX_confirm hN hK h) (fun z q => sIf (fun _ => sRet q) (fun _ => sRet q)) (fun _ => sRet (And.intro h (And.intro rfl Ux.r))) (fun _ => sRet (And.intro h (And.intro rfl Ux.r)))
theorem lL_about {N K : Nat} {S : CS} {p0 : Int32} {p1 : Int32} {nv : Int64} (hN : NBig N) (hK : 100 ≤ K) (h : OkX S) : Sf (gL_about N K S p0 p1 nv) (fun z => OkX z.2.1 ∧ c5 z.2.1 = c5 S ∧ Ux true true true S z.2.1) := by
  unfold gL_about
  exact sWb (aX_about hN hK h) (fun z q => sRet q) (fun _ => sRet (And.intro h (And.intro rfl Ux.r))) (fun _ => sRet (And.intro h (And.intro rfl Ux.r)))
theorem lL_has {N K : Nat} {S : CS} {p0 : Int32} {p1 : Int32} {nv : Int64} (hN : NBig N) (hK : 100 ≤ K) (h : OkX S) : Sf (gL_has N K S p0 p1 nv) (fun z => OkX z.2.1 ∧ c5 z.2.1 = c5 S ∧ Ux true true true S z.2.1) := by
  unfold gL_has
  exact sWb (aX_has hN hK h) (fun z q => sIf (fun _ => sRet q) (fun _ => sRet q)) (fun _ => sRet (And.intro h (And.intro rfl Ux.r))) (fun e => by cases e)
theorem lL_count {N K : Nat} {S : CS} {p0 : Int32} {p1 : Int32} {p2 : Int32} {nv : Int64} (hN : NBig N) (hK : 100 ≤ K) (h : OkX S) : Sf (gL_count N K S p0 p1 p2 nv) (fun z => OkX z.2.1 ∧ c5 z.2.1 = c5 S ∧ Ux true true true S z.2.1) := by
  unfold gL_count
  exact sWb (aX_count hN hK h) (fun z q => sRet q) (fun _ => sRet (And.intro h (And.intro rfl Ux.r))) (fun _ => sRet (And.intro h (And.intro rfl Ux.r)))
theorem lL_isSame {N K : Nat} {S : CS} {p0 : Int32} {p1 : Int32} {nv : Int64} (hN : NBig N) (hK : 100 ≤ K) (h : OkX S) : Sf (gL_isSame N K S p0 p1 nv) (fun z => OkX z.2.1 ∧ c5 z.2.1 = c5 S ∧ Ux true true true S z.2.1) := by
  unfold gL_isSame
  exact sWb (aX_isSame hN hK h) (fun z q => sIf (fun _ => sRet q) (fun _ => sRet q)) (fun _ => sRet (And.intro h (And.intro rfl Ux.r))) (fun e => by cases e)
theorem lL_walk {N K : Nat} {S : CS} {p0 : Int32} {p1 : Int32} {p2 : Int32} {nv : Int64} (hN : NBig N) (hK : 100 ≤ K) (h : OkX S) : Sf (gL_walk N K S p0 p1 p2 nv) (fun z => OkX z.2.1 ∧ c5 z.2.1 = c5 S ∧ Ux true true true S z.2.1) := by
  unfold gL_walk
  exact sWb (aX_walk hN hK h) (fun z q => sRet q) (fun e => by cases e) (fun _ => sRet (And.intro h (And.intro rfl Ux.r)))
theorem lL_product {N K : Nat} {S : CS} {p0 : Int32} {p1 : Int32} {p2 : Int32} {nv : Int64} (hN : NBig N) (hK : 100 ≤ K) (h : OkX S) : Sf (gL_product N K S p0 p1 p2 nv) (fun z => OkX z.2.1 ∧ c5 z.2.1 = c5 S ∧ Ux true true true S z.2.1) := by
  unfold gL_product
  exact sWb (aX_product hN hK h) (fun z q => sRet q) (fun e => by cases e) (fun _ => sRet (And.intro h (And.intro rfl Ux.r)))
theorem lL_rule {N K : Nat} {S : CS} {p0 : Int32} {p1 : Int32} {nv : Int64} (hN : NBig N) (hK : 100 ≤ K) (h : OkX S) : Sf (gL_rule N K S p0 p1 nv) (fun z => OkX z.2.1 ∧ c5 z.2.1 = c5 S ∧ Ux true false true S z.2.1) := by
  unfold gL_rule
  exact sWb (aX_rule hN hK h) (fun z q => sRet q) (fun _ => sRet (And.intro h (And.intro rfl Ux.r))) (fun _ => sRet (And.intro h (And.intro rfl Ux.r)))
theorem lL_forgetRule {N K : Nat} {S : CS} {p0 : Int32} {p1 : Int32} {nv : Int64} (hN : NBig N) (hK : 100 ≤ K) (h : OkX S) : Sf (gL_forgetRule N K S p0 p1 nv) (fun z => OkX z.2.1 ∧ c5 z.2.1 = c5 S ∧ Ux true false true S z.2.1) := by
  unfold gL_forgetRule
  exact sWb (aX_forgetRule hN hK h) (fun z q => sRet q) (fun _ => sRet (And.intro h (And.intro rfl Ux.r))) (fun _ => sRet (And.intro h (And.intro rfl Ux.r)))
theorem lL_ledger {N K : Nat} {S : CS} {p0 : Int32} {p1 : Int32} {nv : Int64} (hN : NBig N) (hK : 100 ≤ K) (h : OkX S) : Sf (gL_ledger N K S p0 p1 nv) (fun z => OkX z.2.1 ∧ c5 z.2.1 = c5 S ∧ Ux true true true S z.2.1) := by
  unfold gL_ledger
  exact sWb (aX_ledger hN hK h) (fun z q => sRet q) (fun _ => sRet (And.intro h (And.intro rfl Ux.r))) (fun _ => sRet (And.intro h (And.intro rfl Ux.r)))
theorem lL_ruleWorth {N K : Nat} {S : CS} {p0 : Int32} {p1 : Int32} {p2 : Int32} {nv : Int64} (hN : NBig N) (hK : 100 ≤ K) (h : OkX S) : Sf (gL_ruleWorth N K S p0 p1 p2 nv) (fun z => OkX z.2.1 ∧ c5 z.2.1 = c5 S ∧ Ux true true true S z.2.1) := by
  unfold gL_ruleWorth
  exact sWb (aX_ruleWorth hN hK h) (fun z q => sRet q) (fun _ => sRet (And.intro h (And.intro rfl Ux.r))) (fun _ => sRet (And.intro h (And.intro rfl Ux.r)))
theorem lL_addPart {N K : Nat} {S : CS} {p0 : Int32} {p1 : Int32} {p2 : Int32} {nv : Int64} (hN : NBig N) (hK : 100 ≤ K) (h : OkX S) : Sf (gL_addPart N K S p0 p1 p2 nv) (fun z => OkX z.2.1 ∧ c5 z.2.1 = c5 S ∧ Ux true true false S z.2.1) := by
  unfold gL_addPart
  exact sWb (aX_addPart hN hK h) (fun z q => sRet q) (fun _ => sRet (And.intro h (And.intro rfl Ux.r))) (fun _ => sRet (And.intro h (And.intro rfl Ux.r)))
theorem lL_takePart {N K : Nat} {S : CS} {p0 : Int32} {p1 : Int32} {nv : Int64} (hN : NBig N) (hK : 100 ≤ K) (h : OkX S) : Sf (gL_takePart N K S p0 p1 nv) (fun z => OkX z.2.1 ∧ c5 z.2.1 = c5 S ∧ Ux true true false S z.2.1) := by
  unfold gL_takePart
  exact sWb (aX_takePart hN hK h) (fun z q => sRet q) (fun _ => sRet (And.intro h (And.intro rfl Ux.r))) (fun _ => sRet (And.intro h (And.intro rfl Ux.r)))
theorem lL_layFirst {N K : Nat} {S : CS} {p0 : Int32} {p1 : Int32} {nv : Int64} (hN : NBig N) (hK : 100 ≤ K) (h : OkX S) : Sf (gL_layFirst N K S p0 p1 nv) (fun z => OkX z.2.1 ∧ c5 z.2.1 = c5 S ∧ Ux true true false S z.2.1) := by
  unfold gL_layFirst
  exact sWb (aX_layFirst hN hK h) (fun z q => sRet q) (fun _ => sRet (And.intro h (And.intro rfl Ux.r))) (fun _ => sRet (And.intro h (And.intro rfl Ux.r)))
theorem lL_next {N K : Nat} {S : CS} {p0 : Int32} {nv : Int64} (hN : NBig N) (hK : 100 ≤ K) (h : OkX S) : Sf (gL_next N K S p0 nv) (fun z => OkX z.2.1 ∧ c5 z.2.1 = c5 S ∧ Ux true true false S z.2.1) := by
  unfold gL_next
  exact sWb (aX_next hN hK h) (fun z q => sRet q) (fun _ => sRet (And.intro h (And.intro rfl Ux.r))) (fun e => by cases e)
theorem lL_turn {N K : Nat} {S : CS} {p0 : Int32} {nv : Int64} (hN : NBig N) (hK : 100 ≤ K) (h : OkX S) : Sf (gL_turn N K S p0 nv) (fun z => OkX z.2.1 ∧ c5 z.2.1 = c5 S ∧ Ux true true false S z.2.1) := by
  unfold gL_turn
  exact sWb (aX_turn hN hK h) (fun z q => sRet q) (fun _ => sRet (And.intro h (And.intro rfl Ux.r))) (fun e => by cases e)
theorem lL_toUnlike {N K : Nat} {S : CS} {p0 : Int32} {nv : Int64} (hN : NBig N) (hK : 100 ≤ K) (h : OkX S) : Sf (gL_toUnlike N K S p0 nv) (fun z => OkX z.2.1 ∧ c5 z.2.1 = c5 S ∧ Ux true true false S z.2.1) := by
  unfold gL_toUnlike
  exact sWb (aX_toUnlike hN hK h) (fun z q => sRet q) (fun _ => sRet (And.intro h (And.intro rfl Ux.r))) (fun e => by cases e)
theorem lL_toOdd {N K : Nat} {S : CS} {p0 : Int32} {nv : Int64} (hN : NBig N) (hK : 100 ≤ K) (h : OkX S) : Sf (gL_toOdd N K S p0 nv) (fun z => OkX z.2.1 ∧ c5 z.2.1 = c5 S ∧ Ux true true false S z.2.1) := by
  unfold gL_toOdd
  exact sWb (aX_toOdd hN hK h) (fun z q => sRet q) (fun _ => sRet (And.intro h (And.intro rfl Ux.r))) (fun e => by cases e)
theorem lL_copyDesk {N K : Nat} {S : CS} {p0 : Int32} {nv : Int64} (hN : NBig N) (hK : 100 ≤ K) (h : OkX S) : Sf (gL_copyDesk N K S p0 nv) (fun z => OkX z.2.1 ∧ c5 z.2.1 = c5 S ∧ Ux true true false S z.2.1) := by
  unfold gL_copyDesk
  exact sWb (aX_copyDesk hN hK h) (fun z q => sRet q) (fun _ => sRet (And.intro h (And.intro rfl Ux.r))) (fun e => by cases e)
theorem lL_times {N K : Nat} {S : CS} {p0 : Int32} {p1 : Int32} {nv : Int64} (hN : NBig N) (hK : 100 ≤ K) (h : OkX S) : Sf (gL_times N K S p0 p1 nv) (fun z => OkX z.2.1 ∧ c5 z.2.1 = c5 S ∧ Ux true true true S z.2.1) := by
  unfold gL_times
  exact sWb (aX_times hN hK h) (fun z q => sRet q) (fun _ => sRet (And.intro h (And.intro rfl Ux.r))) (fun _ => sRet (And.intro h (And.intro rfl Ux.r)))
theorem lL_way {N K : Nat} {S : CS} {p0 : Int32} {p1 : Int32} {nv : Int64} (hN : NBig N) (hK : 100 ≤ K) (h : OkX S) : Sf (gL_way N K S p0 p1 nv) (fun z => OkX z.2.1 ∧ c5 z.2.1 = c5 S ∧ Ux true true true S z.2.1) := by
  unfold gL_way
  exact sWb (aX_way hN hK h) (fun z q => sRet q) (fun _ => sRet (And.intro h (And.intro rfl Ux.r))) (fun _ => sRet (And.intro h (And.intro rfl Ux.r)))
theorem lL_wayText {N K : Nat} {S : CS} {p0 : Int32} {nv : Int64} (hN : NBig N) (hK : 100 ≤ K) (h : OkX S) : Sf (gL_wayText N K S p0 nv) (fun z => OkX z.2.1 ∧ c5 z.2.1 = c5 S ∧ Ux true true true S z.2.1) := by
  unfold gL_wayText
  exact sWb (aX_wayText hN hK h) (fun z q => sRet q) (fun _ => sRet (And.intro h (And.intro rfl Ux.r))) (fun e => by cases e)
theorem lL_isOf {N K : Nat} {S : CS} {p0 : Int32} {p1 : Int32} {p2 : Int32} {nv : Int64} (hN : NBig N) (hK : 100 ≤ K) (h : OkX S) : Sf (gL_isOf N K S p0 p1 p2 nv) (fun z => OkX z.2.1 ∧ c5 z.2.1 = c5 S ∧ Ux true true true S z.2.1) := by
  unfold gL_isOf
  exact sWb (aX_isOf hN hK h) (fun z q => sIf (fun _ => sRet q) (fun _ => sRet q)) (fun _ => sRet (And.intro h (And.intro rfl Ux.r))) (fun _ => sRet (And.intro h (And.intro rfl Ux.r)))
theorem lL_tally {N K : Nat} {S : CS} {p0 : Int32} {nv : Int64} (hN : NBig N) (hK : 100 ≤ K) (h : OkX S) : Sf (gL_tally N K S p0 nv) (fun z => OkX z.2.1 ∧ c5 z.2.1 = c5 S ∧ Ux true true true S z.2.1) := by
  unfold gL_tally
  exact sWb (aX_tally hN hK h) (fun z q => sRet q) (fun e => by cases e) (fun _ => sRet (And.intro h (And.intro rfl Ux.r)))
theorem lL_isSound {N K : Nat} {S : CS} {p0 : Int32} {nv : Int64} (hN : NBig N) (hK : 100 ≤ K) (h : OkX S) : Sf (gL_isSound N K S p0 nv) (fun z => OkX z.2.1 ∧ c5 z.2.1 = c5 S ∧ Ux true true true S z.2.1) := by
  unfold gL_isSound
  exact sWb (aX_isSound hN hK h) (fun z q => sIf (fun _ => sRet q) (fun _ => sRet q)) (fun _ => sRet (And.intro h (And.intro rfl Ux.r))) (fun e => by cases e)
