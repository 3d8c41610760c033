/-! the law's walk: look, the loop -/
theorem lw_l1 : Cond.methodLink RL 58 yL_look ∈ zTB := zTB_of (by decide +kernel) rfl
theorem lw_l2 : Cond.static yL_look ∈ zTB := zTB_of (by decide +kernel) rfl
theorem lw_l3 : Cond.initialized RL ∈ zTB := zTB_of (by decide +kernel) rfl
theorem lw_l4 : Cond.codeWith yL_look cL_look 5 (some .int) [(0, 10, 13, 13)] ∈ zTB := zTB_of (by decide +kernel) rfl
theorem lw_cmp (x : Int64) : lg_cmp x x = 0 := by simp [lg_cmp]
section LAW2
variable {E : LEv} {D : va_G} {tc : Nat → ClassId} {g2 : Nat → Nat} {b L sa o r q : Nat} {xs : Nat → Int32} {ls : Nat → Option Value} {fk fm : Nat → Nat} {hk hm : ZH} {φ : Nat → Int64}
set_option maxHeartbeats 4000000 in
/-- after the call of the law's look: it gave k, and φ stands in out -/
theorem law_look2 (HC : lwC E D tc g2 b L sa xs) (hq : q + 7 ≤ L) (N : lwN E D tc g2 b o r q) (hz : zRel hk hm) (hl : lwL ls b fk fm o q) {k v : Int32} (hk01 : k = 0 ∨ k = 1) (hQ : qLk hk hm (xs (q + 1)) (xs (q + 2)) v k) (hφ : k = 0 → φ 0 = v.toInt64) : Lf lwX E (lwV E D tc g2 fk hk fm hm o φ (6 * r) (65 * r)) 549 ls [.int k] := by
  obtain ⟨hm', a, Z9, hz', Zt, hav⟩ := hQ
  have F := HC.1
  have hfr := HC.2.2.2.2.2.1
  refine l_istore (i := 5) dL_law_549 (by decide) ?_
  have hl1 : lwL (va_up ls 5 (some (.int k))) b fk fm o q := hl.up (by decide)
  have hl5 : va_up ls 5 (some (.int k)) 5 = some (.int k) := va_up_self _ _ _
  generalize va_up ls 5 (some (.int k)) = ls1 at hl1 hl5
  obtain ⟨l0, l1, l2, l3, l4⟩ := id hl1
  refine l_inv (fun H locs cells slots w => w.swap) ?_
  refine l_aload_n (i := 2) dL_law_551 rfl l2 ?_
  refine l_arg (j := 1) HC (fun _ _ _ _ w => w.2.1) l0 l4 hq (by decide) dL_law_552 dL_law_553 dL_law_555 (by decide) dL_law_556 dL_law_557 ?_
  refine l_arg (j := 2) HC (fun _ _ _ _ w => w.2.1) l0 l4 hq (by decide) dL_law_558 dL_law_559 dL_law_561 (by decide) dL_law_562 dL_law_563 ?_
  refine l_callV (st := []) (a := 0) (ci := 9) (mc2 := 6 * r) (ms2 := 65 * r) F hz.m.1 ziL_63 zv_yX9_look Z9 dL_law_564 hz.m.2.1 hz.m.2.2 rfl (fun _ => rfl) rfl rfl (by omega) (by omega) (by decide) (by omega) (by omega) (fun r1 h1 f1 q1 e1 => ?_)
  obtain ⟨rfl, rfl⟩ := q1
  have e10 : f1 0 = fm 0 := e1 0 hz.m.2.1
  refine l_istore (x := a) (st := []) (i := 6) dL_law_567 (by decide) ?_
  have hl2 : lwL (va_up ls1 6 (some (.int a))) b fk fm o q := hl1.up (by decide)
  have hl25 : va_up ls1 6 (some (.int a)) 5 = some (.int k) := by rw [va_up_ne _ _ (by decide)]; exact hl5
  have hl26 : va_up ls1 6 (some (.int a)) 6 = some (.int a) := va_up_self _ _ _
  generalize va_up ls1 6 (some (.int a)) = ls2 at hl2 hl25 hl26
  clear l0 l1 l2 l3 l4
  obtain ⟨l0, l1, l2, l3, l4⟩ := id hl2
  rw [← e10] at l2
  refine l_aload_n (i := 2) dL_law_569 rfl l2 ?_
  refine l_callV (st := []) (a := 0) (ci := 9) (mc2 := 6 * r) (ms2 := 65 * r) F hz'.m.1 ziL_64 zv_yX9_thrown Zt dL_law_570 hz'.m.2.1 hz'.m.2.2 rfl (fun _ => rfl) rfl rfl (by omega) (by omega) (by decide) (by omega) (by omega) (fun r2 h2 f2 q2 e2 => ?_)
  obtain ⟨rfl, rfl⟩ := q2
  have e20 : f2 0 = f1 0 := e2 0 hz'.m.2.1
  refine l_inv (fun H locs cells slots w => w.swap) ?_
  have hl3 : lwL ls2 b fk f2 o q := ⟨l0, l1, by rw [e20]; exact l2, l3, l4⟩
  refine l_iload (st := [.int k]) dL_law_573 hl25 ?_
  refine l_icmp_eq 580 dL_law_575 (by decide) (fun _ => ?_) (fun c => absurd rfl c)
  refine l_iload dL_law_580 hl25 ?_
  have hend : Lf lwX E (lwV E D tc g2 fk hk f2 h2 o φ (6 * r) (65 * r)) 597 ls2 [] := l_goto 785 dL_law_597 (by decide) (N ls2 fk f2 hk h2 φ hz' hl3)
  refine l_if_ne 597 dL_law_582 (by decide) (fun _ => hend) (fun c0 => ?_)
  refine l_aload_n (i := 3) dL_law_585 rfl l3 ?_
  refine l_iconst (v := 0) dL_law_586 (by decide) ?_
  refine l_lald F dL_law_587 ?_
  rw [hφ c0]
  refine l_iload dL_law_588 hl26 ?_
  refine l_i2l dL_law_590 rfl ?_
  rw [hav c0]
  refine l_lcmp dL_law_591 ?_
  rw [lw_cmp]
  exact l_if_eq 597 dL_law_592 (by decide) (fun _ => hend) (fun c => absurd rfl c)
set_option maxHeartbeats 4000000 in
theorem law_look (HC : lwC E D tc g2 b L sa xs) (hq : q + 7 ≤ L) (N : lwN E D tc g2 b o r q) (hz : zRel hk hm) (hl : lwL ls b fk fm o q) : Lf lwX E (lwV E D tc g2 fk hk fm hm o φ (6 * (r + 1)) (65 * (r + 1))) 532 ls [] := by
  obtain ⟨l0, l1, l2, l3, l4⟩ := id hl
  have F := HC.1
  have hfr := HC.2.2.2.2.2.1
  refine l_aload_n (i := 1) dL_law_532 rfl l1 ?_
  refine l_arg (j := 1) HC (fun _ _ _ _ w => w.2.1) l0 l4 hq (by decide) dL_law_533 dL_law_534 dL_law_536 (by decide) dL_law_537 dL_law_538 ?_
  refine l_arg (j := 2) HC (fun _ _ _ _ w => w.2.1) l0 l4 hq (by decide) dL_law_539 dL_law_540 dL_law_542 (by decide) dL_law_543 dL_law_544 ?_
  refine l_aload_n (i := 3) dL_law_545 rfl l3 ?_
  rcases q_look hz (xs (q + 1)) (xs (q + 2)) with ⟨v, Z8, hQ⟩ | ⟨n, K, J, L8, R, G, rfl, hn0, hk0, h14, hb, hQ⟩
  · refine l_lookS (st := []) (mc2 := 6 * r) (ms2 := 65 * r) (v := 0) (φ' := va_up φ 0 v.toInt64) F HC.2.1 (fun sz => cL_lookI E.l D tc g2 fk hk o φ sa sz v (xs (q + 1)) (xs (q + 2)) hz.k.1 hz.k.2.1 hz.k.2.2 Z8) lw_l1 lw_l2 lw_l3 lw_l4 dL_law_546 (by omega) (by omega) (by decide) (by omega) (by omega) ?_
    exact law_look2 HC hq N hz hl (Or.inl rfl) hQ (fun _ => va_up_self _ _ _)
  · refine l_lookS (st := []) (mc2 := 6 * r) (ms2 := 65 * r) (v := 1) (φ' := φ) F HC.2.1 (fun sz => cL_lookX E.l HC.2.2.2.2.2.2 D tc g2 fk n K J L8 R o φ sa sz G hn0 hk0 h14 (xs (q + 1)) (xs (q + 2)) hb) lw_l1 lw_l2 lw_l3 lw_l4 dL_law_546 (by omega) (by omega) (by decide) (by omega) (by omega) ?_
    exact law_look2 HC hq N hz hl (Or.inr rfl) hQ (fun h => absurd h (by decide))
theorem lw_15 (x : Int32) : (x = 0 ∨ x = 1 ∨ x = 2 ∨ x = 3 ∨ x = 4 ∨ x = 5 ∨ x = 6 ∨ x = 7 ∨ x = 8 ∨ x = 9 ∨ x = 10 ∨ x = 11 ∨ x = 12 ∨ x = 13) ∨ (x.toInt < 0 ∨ 13 < x.toInt) := by
  by_cases h : x.toInt < 0 ∨ 13 < x.toInt
  · exact Or.inr h
  · left
    have h0 : ¬ x < 0 := fun q => h (Or.inl (Int32.lt_iff_toInt_lt.mp q))
    obtain ⟨j, hj, rfl⟩ := nI_of h0
    rw [nI_toInt hj] at h
    have h14 : j < 14 := by omega
    have : ∀ j, j < 14 → (nI j = 0 ∨ nI j = 1 ∨ nI j = 2 ∨ nI j = 3 ∨ nI j = 4 ∨ nI j = 5 ∨ nI j = 6 ∨ nI j = 7 ∨ nI j = 8 ∨ nI j = 9 ∨ nI j = 10 ∨ nI j = 11 ∨ nI j = 12 ∨ nI j = 13) := by decide +kernel
    exact this j h14
theorem lw_exit {L q : Nat} (hL : L ≤ 3584) (hq : q ≤ 3584) : (L.toInt32 - 7 < nI q) ↔ ¬ q + 7 ≤ L := by
  have e : L.toInt32 = nI L := rfl
  rw [e, Int32.lt_iff_toInt_lt, nI_toInt (by omega)]
  have h1 : (nI L - 7).toInt = (L : Int) - 7 := by
    rw [Int32.toInt_sub, nI_toInt (by omega)]
    have : (7 : Int32).toInt = 7 := by decide
    rw [this]
    rw [Int.bmod_def]
    omega
  rw [h1]
  omega
set_option maxHeartbeats 4000000 in
theorem law_loop (HC : lwC E D tc g2 b L sa xs) (hT : ∀ (Iv : LI) (ls : Nat → Option Value), (∀ H locs cells slots, Iv H locs cells slots → cells ≤ 601024 ∧ slots ≤ 7293034 ∧ va_S (lA E) E.s.heap H locs) → Lf lwX E Iv 791 ls []) : ∀ (r q : Nat) (ls : Nat → Option Value) (fk fm : Nat → Nat) (hk hm : ZH) (φ : Nat → Int64), L ≤ q + 7 * r → q ≤ 3584 → zRel hk hm → lwL ls b fk fm o q → Lf lwX E (lwV E D tc g2 fk hk fm hm o φ (6 * r) (65 * r)) 23 ls [] := by
  intro r
  induction r with
  | zero =>
    intro q ls fk fm hk hm φ hr hq3 hz hl
    obtain ⟨l0, l1, l2, l3, l4⟩ := id hl
    have hL := HC.2.2.2.2.1
    refine l_iload dL_law_23 l4 ?_
    refine l_aload_n (i := 0) dL_law_25 rfl l0 ?_
    refine l_slen (A := lA E) HC.2.2.1 HC.2.2.2.1 (Nat.not_le.mpr HC.2.2.2.1) (fun _ _ _ _ w => w.2.1) dL_law_26 rfl ?_
    refine l_bipush (v := 7) dL_law_27 (by decide) ?_
    refine l_isub dL_law_29 ?_
    refine l_icmp_gt 791 dL_law_30 (by decide) (fun _ => ?_) (fun c => absurd ((lw_exit hL hq3).mpr (by omega)) c)
    exact hT _ _ (fun H locs cells slots w => ⟨Nat.le_trans (Nat.le_add_right _ _) w.1.1, Nat.le_trans (Nat.le_add_right _ _) w.1.2, w.2.1⟩)
  | succ r ih =>
    intro q ls fk fm hk hm φ hr hq3 hz hl
    obtain ⟨l0, l1, l2, l3, l4⟩ := id hl
    have hL := HC.2.2.2.2.1
    refine l_iload dL_law_23 l4 ?_
    refine l_aload_n (i := 0) dL_law_25 rfl l0 ?_
    refine l_slen (A := lA E) HC.2.2.1 HC.2.2.2.1 (Nat.not_le.mpr HC.2.2.2.1) (fun _ _ _ _ w => w.2.1) dL_law_26 rfl ?_
    refine l_bipush (v := 7) dL_law_27 (by decide) ?_
    refine l_isub dL_law_29 ?_
    refine l_icmp_gt 791 dL_law_30 (by decide) (fun _ => ?_) (fun c => ?_)
    · exact hT _ _ (fun H locs cells slots w => ⟨Nat.le_trans (Nat.le_add_right _ _) w.1.1, Nat.le_trans (Nat.le_add_right _ _) w.1.2, w.2.1⟩)
    have hq : q + 7 ≤ L := by
      by_cases h : q + 7 ≤ L
      · exact h
      · exact absurd ((lw_exit hL hq3).mpr h) c
    have N : lwN E D tc g2 b o r q := by
      intro ls fk fm hk hm φ hz hl
      obtain ⟨l0, l1, l2, l3, l4⟩ := id hl
      refine l_iinc dL_law_785 l4 ?_
      refine l_goto 23 dL_law_788 (by decide) ?_
      refine ih (q + 7) _ fk fm hk hm φ (by omega) (by omega) hz ⟨?_, ?_, ?_, ?_, ?_⟩
      · rw [va_up_ne _ _ (by decide)]; exact l0
      · rw [va_up_ne _ _ (by decide)]; exact l1
      · rw [va_up_ne _ _ (by decide)]; exact l2
      · rw [va_up_ne _ _ (by decide)]; exact l3
      · rw [va_up_self]
        have : nI q + Int32.ofInt 7 = nI (q + 7) := nI_add q 7
        rw [this]
    refine l_aload_n (i := 0) dL_law_33 rfl l0 ?_
    refine l_iload dL_law_34 l4 ?_
    refine l_scr (A := lA E) HC.2.2.1 HC.2.2.2.1 (Nat.not_le.mpr HC.2.2.2.1) (fun _ _ _ _ w => w.2.1) dL_law_36 (nI_pos (by omega)) (nI_clamp (by omega)) (show q < L by omega) ?_
    refine l_bipush (v := 15) dL_law_37 (by decide) ?_
    refine l_iand dL_law_39 ?_
    generalize xs q &&& 15 = x
    rcases lw_15 x with (rfl | rfl | rfl | rfl | rfl | rfl | rfl | rfl | rfl | rfl | rfl | rfl | rfl | rfl) | hx
    · exact l_tableIn (off := 72) 112 dL_law_40 (by decide) (by decide) (by decide) (by decide) (law_pitch HC hq N hz hl)
    · exact l_tableIn (off := 109) 149 dL_law_40 (by decide) (by decide) (by decide) (by decide) (law_game HC hq N hz hl)
    · exact l_tableIn (off := 196) 236 dL_law_40 (by decide) (by decide) (by decide) (by decide) (law_lay HC hq N hz hl)
    · exact l_tableIn (off := 221) 261 dL_law_40 (by decide) (by decide) (by decide) (by decide) (law_feed HC hq N hz hl)
    · exact l_tableIn (off := 368) 408 dL_law_40 (by decide) (by decide) (by decide) (by decide) (law_text HC hq N hz hl)
    · exact l_tableIn (off := 381) 421 dL_law_40 (by decide) (by decide) (by decide) (by decide) (law_day HC hq N hz hl)
    · exact l_tableIn (off := 418) 458 dL_law_40 (by decide) (by decide) (by decide) (by decide) (law_turn HC hq N hz hl)
    · exact l_tableIn (off := 443) 483 dL_law_40 (by decide) (by decide) (by decide) (by decide) (law_grass HC hq N hz hl)
    · exact l_tableIn (off := 492) 532 dL_law_40 (by decide) (by decide) (by decide) (by decide) (law_look HC hq N hz hl)
    · exact l_tableIn (off := 560) 600 dL_law_40 (by decide) (by decide) (by decide) (by decide) (law_at HC hq N hz hl)
    · exact l_tableIn (off := 609) 649 dL_law_40 (by decide) (by decide) (by decide) (by decide) (law_club HC hq N hz hl)
    · exact l_tableIn (off := 646) 686 dL_law_40 (by decide) (by decide) (by decide) (by decide) (law_field HC hq N hz hl)
    · exact l_tableIn (off := 683) 723 dL_law_40 (by decide) (by decide) (by decide) (by decide) (law_would HC hq N hz hl)
    · exact l_tableIn (off := 720) 760 dL_law_40 (by decide) (by decide) (by decide) (by decide) (law_count HC hq N hz hl)
    · exact l_tableOut 785 dL_law_40 hx (by decide) (l_inv (fun H locs cells slots w => w.less (by omega) (by omega)) (N ls fk fm hk hm φ hz hl))
end LAW2
