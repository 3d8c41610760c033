/-! the grass grows -/
def nn5 (wt : Nat) : Nat := if wt ≤ 5 then 2 * (5 - wt) else 2 * (wt - 5)
theorem nn5_b : ∀ wt, wt ≤ 10 → nn5 wt ≤ 10 ∧ (if nI wt ≤ 5 then 2 * (5 - nI wt) else 2 * (nI wt - 5)) = nI (nn5 wt) ∧ 2 * (if 0 ≤ nI wt - 5 then nI wt - 5 else 0 - (nI wt - 5)) = nI (nn5 wt) ∧ (10 : Int32) - nI (nn5 wt) = nI (10 - nn5 wt) ∧ (nI wt < 9 ↔ wt < 9) := by decide +kernel
theorem k1000 {v : Nat} (hv : v ≤ 1000) : (1000 : Int32) - nI v = nI (1000 - v) := by
  obtain ⟨d, hd⟩ : ∃ d, v + d = 1000 := ⟨1000 - v, by omega⟩
  rw [show (1000 : Int32) = nI (v + d) by rw [hd]; rfl, zsub, show 1000 - v = d by omega]
def gcut (wt v : Nat) : Nat := if wt < 9 then v else v - 10
theorem mg1_n {wm wt v : Nat} (hm : wm ≤ 10) (ht : wt ≤ 10) (hv : v ≤ 1000) : mg1 (nI wm) (nI wt) (nI v) = nI (gcut wt v + (1000 - gcut wt v) * (wm * (10 - nn5 wt)) / 2000) ∧ tg1 (tdr (nI wt)) (tgr (nI wm) (nI wt)) (nI v) = nI (gcut wt v + (1000 - gcut wt v) * (wm * (10 - nn5 wt)) / 2000) ∧ gcut wt v + (1000 - gcut wt v) * (wm * (10 - nn5 wt)) / 2000 ≤ 1000 := by
  obtain ⟨b1, b2, b3, b4, b5⟩ := nn5_b wt ht
  have hc : gcut wt v ≤ 1000 := by unfold gcut; split <;> omega
  have hg : (if nI wt < 9 then nI v else if nI v ≤ 10 then 0 else nI v - 10) = nI (gcut wt v) := by
    unfold gcut
    by_cases h : wt < 9
    · rw [if_pos (b5.mpr h), if_pos h]
    · rw [if_neg (fun q => h (b5.mp q)), if_neg h]
      by_cases h2 : v ≤ 10
      · rw [if_pos (show nI v ≤ 10 from (zle (a := v) (b := 10) (by omega) (by omega)).mpr h2), show v - 10 = 0 by omega]
        rfl
      · obtain ⟨d, rfl⟩ : ∃ d, v = 10 + d := ⟨v - 10, by omega⟩
        rw [if_neg (show ¬ nI (10 + d) ≤ 10 from fun q => h2 ((zle (a := 10 + d) (b := 10) (by omega) (by omega)).mp q)), show (10 : Int32) = nI 10 from rfl, zsub, Nat.add_sub_cancel_left]
  have hl : tlf (tdr (nI wt)) (nI v) = nI (gcut wt v) := by
    unfold tlf tdr gcut
    by_cases h : wt < 9
    · rw [if_pos (b5.mpr h), if_pos h, show nI v - 0 = nI v by grind]
      by_cases h0 : v = 0
      · subst h0; decide
      · rw [if_pos (show (0 : Int32) < nI v from (zlt (a := 0) (by omega) (by omega)).mpr (by omega))]
    · rw [if_neg (fun q => h (b5.mp q)), if_neg h]
      by_cases h2 : 10 < v
      · obtain ⟨d, rfl⟩ : ∃ d, v = 10 + d := ⟨v - 10, by omega⟩
        rw [show (10 : Int32) = nI 10 from rfl, zsub, Nat.add_sub_cancel_left, if_pos (show (0 : Int32) < nI d from (zlt (a := 0) (by omega) (by omega)).mpr (by omega))]
      · obtain ⟨d, hd⟩ : ∃ d, v + d = 10 := ⟨10 - v, by omega⟩
        rw [show v - 10 = 0 by omega, show nI v - 10 = 0 - nI d by rw [show (10 : Int32) = nI (v + d) by rw [hd]; rfl, ← nI_add]; grind, if_neg (kneg d (by omega))]
        rfl
  have hp : wm * (10 - nn5 wt) ≤ 10 * 10 := Nat.mul_le_mul hm (by omega)
  have hq : (1000 - gcut wt v) * (wm * (10 - nn5 wt)) ≤ (1000 - gcut wt v) * 100 := Nat.mul_le_mul_left _ (by omega)
  refine ⟨?_, ?_, by omega⟩
  · unfold mg1
    rw [hg, b2, b4, k1000 hc, pk_mul, pk_mul, Nat.mul_assoc, show (2000 : Int32) = nI 2000 from rfl, zdiv (by omega) (by omega) (by omega), nI_add]
  · unfold tg1 tgr
    rw [hl, b3, b4, k1000 hc, pk_mul, pk_mul, show (2000 : Int32) = nI 2000 from rfl, zdiv (by omega) (by omega) (by omega), nI_add]
def mg2 (I : Nat → Nat → Int32) (warm wet : Int32) (m : Nat) : Nat → Nat → Int32 := fun a j => if (a = 18 ∨ a = 19) ∧ j < m then mg1 warm wet (I a j) else I a j
theorem mg2_e (I : Nat → Nat → Int32) (warm wet : Int32) (m : Nat) : mgI (mgI I 18 warm wet m) 19 warm wet m = mg2 I warm wet m := by
  funext a j
  unfold mg2 mgI
  by_cases h1 : a = 19
  · subst h1
    by_cases h2 : j < m
    · simp [h2]
    · simp [h2]
  · by_cases h3 : a = 18
    · subst h3
      by_cases h2 : j < m
      · simp [h2]
      · simp [h2]
    · simp [h1, h3]
theorem kD_grow {n : Nat} {K : Nat → Nat × Nat} {R : Nat → Nat → Option Nat} {P G D : Nat} {pa ga : Nat → Nat} {ru sp : Nat} {J I : Nat → Nat → Int32} (hG : kG n K R P G pa ga ru sp) {p wm wt : Nat} (hwm : wm ≤ 10) (hwt : wt ≤ 10) (he : kIe I P) (h : kD J (mg2 I (nI wm) (nI wt) (24 * p)) P G D pa ga) (hp : p < P) : kD (tgI (tgI J (pa p + 2) (tdr (nI wt)) (tgr (nI wm) (nI wt)) 24) (pa p + 4) (tdr (nI wt)) (tgr (nI wm) (nI wt)) 24) (mg2 I (nI wm) (nI wt) (24 * (p + 1))) P G D pa ga := by
  obtain ⟨⟨m2, m3, m4⟩, ⟨n1, n2, n3⟩, ⟨o1, o2, o3⟩⟩ := h.2.2.1 p hp
  have et : ∀ a, a ≠ pa p + 2 → a ≠ pa p + 4 → tgI (tgI J (pa p + 2) (tdr (nI wt)) (tgr (nI wm) (nI wt)) 24) (pa p + 4) (tdr (nI wt)) (tgr (nI wm) (nI wt)) 24 a = J a := fun a x y => by
    funext j
    unfold tgI
    rw [if_neg (fun q => y q.1), if_neg (fun q => x q.1)]
  have eI : ∀ m a, a ≠ 18 → a ≠ 19 → mg2 I (nI wm) (nI wt) m a = I a := fun m a x y => by
    funext j
    unfold mg2
    rw [if_neg (fun q => q.1.elim x y)]
  have eE : ∀ a, a ≠ 18 → a ≠ 19 → mg2 I (nI wm) (nI wt) (24 * (p + 1)) a = mg2 I (nI wm) (nI wt) (24 * p) a := fun a x y => by rw [eI _ a x y, eI _ a x y]
  refine kD_p hG h hp (fun a ha => et a (by omega) (by omega)) (fun a ha => eE a (by omega) (by omega)) (fun q hq hqp => ⟨fun a x y z w => by rw [eE a z w], fun k hk => ?_⟩) ⟨⟨?_, ?_, ?_⟩, ⟨?_, ?_, fun k hk => ?_⟩, ⟨?_, ?_, fun k hk => ?_⟩⟩
  · unfold mg2
    by_cases e : q < p
    · rw [if_pos ⟨Or.inl rfl, by omega⟩, if_pos ⟨Or.inl rfl, by omega⟩, if_pos ⟨Or.inr rfl, by omega⟩, if_pos ⟨Or.inr rfl, by omega⟩]
      exact ⟨rfl, rfl⟩
    · rw [if_neg (by omega), if_neg (by omega), if_neg (by omega), if_neg (by omega)]
      exact ⟨rfl, rfl⟩
  · rw [et _ (by omega) (by omega), eE 22 (by decide) (by decide)]; exact m2
  · rw [et _ (by omega) (by omega), eE 23 (by decide) (by decide)]; exact m3
  · rw [et _ (by omega) (by omega), eE 24 (by decide) (by decide)]; exact m4
  · rw [et _ (by omega) (by omega), eE 17 (by decide) (by decide)]; exact n1
  · rw [et _ (by omega) (by omega), eE 20 (by decide) (by decide)]; exact n2
  · obtain ⟨v, hv, e⟩ := (he (24 * p + k) (by omega)).1
    have h9 := n3 k hk
    unfold mg2 at h9
    rw [if_neg (by omega)] at h9
    unfold tgI mg2
    rw [if_neg (by omega), if_pos ⟨rfl, hk⟩, if_pos ⟨Or.inl rfl, by omega⟩, h9, e, (mg1_n hwm hwt hv).1, (mg1_n hwm hwt hv).2.1]
  · rw [et _ (by omega) (by omega), eE 17 (by decide) (by decide)]; exact o1
  · rw [et _ (by omega) (by omega), eE 21 (by decide) (by decide)]; exact o2
  · obtain ⟨v, hv, e⟩ := (he (24 * p + k) (by omega)).2
    have h9 := o3 k hk
    unfold mg2 at h9
    rw [if_neg (by omega)] at h9
    unfold tgI mg2
    rw [if_pos ⟨rfl, hk⟩, if_neg (by omega), if_pos ⟨Or.inr rfl, by omega⟩, h9, e, (mg1_n hwm hwt hv).1, (mg1_n hwm hwt hv).2.1]
theorem kIe_grow {I : Nat → Nat → Int32} {P wm wt m : Nat} (hwm : wm ≤ 10) (hwt : wt ≤ 10) (he : kIe I P) : kIe (mg2 I (nI wm) (nI wt) m) P := by
  intro k hk
  obtain ⟨⟨v, hv, e⟩, ⟨v2, hv2, e2⟩⟩ := he k hk
  unfold mg2
  by_cases h : k < m
  · rw [if_pos ⟨Or.inl rfl, h⟩, if_pos ⟨Or.inr rfl, h⟩, e, e2, (mg1_n hwm hwt hv).1, (mg1_n hwm hwt hv2).1]
    exact ⟨⟨_, (mg1_n hwm hwt hv).2.2, rfl⟩, ⟨_, (mg1_n hwm hwt hv2).2.2, rfl⟩⟩
  · rw [if_neg (fun q => h q.2), if_neg (fun q => h q.2)]
    exact ⟨⟨v, hv, e⟩, ⟨v2, hv2, e2⟩⟩
set_option maxHeartbeats 4000000 in
theorem c8_passHour (n : Nat) (K : Nat → Nat × Nat) (J : Nat → Nat → Int32) (L : Nat → Nat → Int64) (R : Nat → Nat → Option Nat) (P G : Nat) (pa ga : Nat → Nat) (ru sp : Nat) (hG : kG n K R P G pa ga ru sp) (I : Nat → Nat → Int32) (D W h j wt : Nat) (ts : List MLn) (warm wet : Int32) (hD : D ≤ 356) (hWD : W = D / 7) (hh : h < 4) (hj : j < P) (hwt : wt ≤ 10) (hwet : wet = nI wt) (hs : kDs J I P G D (24 * D + 6 * h + j) W pa ga ru ts warm wet) : Zm yX8_passHour cX8_passHour 7 none 5 200 0 0 [.ref 0, .int (nI D), .int (nI h), .int (nI j)] (n, K, J, L, R) (kQph n K J L R P G D (24 * D + 6 * h + j + 1) W pa ga ru ts warm wet (mhour I P G D ts h j warm wet)) := by
  refine Zm_of (lg := false) (by decide) (fun _ => by simp [Value.category]) (fun _ => Nat.le_of_ble_eq_true rfl) ?_
  show Zf x8_passHour 0 0 0 (zargs [.ref 0, .int (nI D), .int (nI h), .int (nI j)]) [] (n, K, J, L, R) _
  generalize hQ0 : (kQph n K J L R P G D (24 * D + 6 * h + j + 1) W pa ga ru ts warm wet (mhour I P G D ts h j warm wet) : Option Value → ZH → Prop) = Q0
  obtain ⟨⟨hn28, hP6, hG60⟩, ⟨hk0, hk1, hk2, hk3, hk4, hk5, hk6, hk7⟩, ⟨hr0, hr1, hr2, hr3, hr4, hr5, hr6⟩, ⟨hr7, hr8, hr9, hr10, hr11, hr12⟩, hB8, ⟨hT11, hR17, hT13⟩, ⟨hU18, hU23, hrs⟩, ⟨hgm, hgi⟩, ⟨hpm, hpi⟩⟩ := id hG
  have hn0 : 0 < n := by omega
  have hn1 : 1 < n := by omega
  have hn2 : 2 < n := by omega
  have hn3 : 3 < n := by omega
  have hn4 : 4 < n := by omega
  have hn5 : 5 < n := by omega
  have hn6 : 6 < n := by omega
  have hn7 : 7 < n := by omega
  have hn8 : 8 < n := by omega
  have hk8 : K 8 = (5, 0) := hB8.2.2.2.1
  have hn11 : 11 < n := by omega
  have hk11 : K 11 = (10, 0) := hT11.2.2.1
  obtain ⟨hKD, hok, hB, hx, ht, hie⟩ := id hs
  have h14 := hKD.1.2.1
  have hS : 24 * (D % 7) + 6 * h + j < 168 := by omega
  have hSe : 168 * W + (24 * (D % 7) + 6 * h + j) = 24 * D + 6 * h + j := by omega
  have hbt := hB.1 _ hS
  rw [hSe] at hbt
  refine z_iload_n (i := 1) dX8_passHour_0 rfl rfl ?_
  refine z_iload_n (i := 2) dX8_passHour_1 rfl rfl ?_
  refine z_iload_n (i := 3) dX8_passHour_2 rfl rfl ?_
  refine z_callS (st := []) (mc2 := 0) (ms2 := 0) zi8_178 zs_yX8_slotOf (c8_slotOf n K J L R D h j (by omega) hh (by omega)) dX8_passHour_3 rfl rfl (by decide) (by decide) (Nat.le_of_ble_eq_true rfl) (by decide) (by decide) (fun r h2 hq => ?_)
  obtain ⟨rfl, rfl⟩ := hq
  refine z_istore (i := 4) dX8_passHour_6 (by decide) rfl ?_
  refine z_aload_n (i := 0) dX8_passHour_8 rfl rfl ?_
  refine z_gR zf8_42.g dX8_passHour_9 hn0 hk0 hr7 ?_
  refine z_iload dX8_passHour_12 rfl ?_
  refine z_callV (st := []) (mc2 := 0) (ms2 := 0) zi8_247 zv_yX0_has (c0_has n K J L R 8 9 10 _ hB8 hS) dX8_passHour_14 hn8 (congrArg Prod.fst hk8) rfl rfl rfl (by decide) (by decide) (Nat.le_of_ble_eq_true rfl) (by decide) (by decide) (fun r h2 hq => ?_)
  obtain ⟨rfl, rfl⟩ := hq
  refine z_if_eq 33 dX8_passHour_17 (by decide) (fun c_1 => ?_) (fun c_1 => ?_)
  · skip
    refine z_iconst (v := (-1)) dX8_passHour_33 (by decide) ?_
    have hm1 : mga I (nI (24 * D + 6 * h + j)) G = -1 := by
      rcases mga_spec I (nI (24 * D + 6 * h + j)) G with ⟨g, q1, q2, q3, q4⟩ | ⟨q1, -⟩
      · have := hbt.mpr ⟨g, q1, q2, q3⟩
        rw [(zb_0 _).mp c_1] at this
        cases this
      · exact q1
    subst hQ0
    exact l8_ph0 hG hD hWD hh hj hwt hwet hs hm1 _ rfl rfl rfl rfl
  · skip
    refine z_aload_n (i := 0) dX8_passHour_20 rfl rfl ?_
    refine z_iload_n (i := 1) dX8_passHour_21 rfl rfl ?_
    refine z_bipush (v := 7) dX8_passHour_22 (by decide) ?_
    refine z_idiv dX8_passHour_24 (by decide) ?_
    refine z_top (y := .int (nI W)) (by rw [hWD, zl7, zdiv (by omega) (by omega) (by omega)]) ?_
    refine z_iload dX8_passHour_25 rfl ?_
    refine z_callV (st := []) (mc2 := 0) (ms2 := 0) zi8_182 zv_yX8_gameIn (c8_gameIn n K J L R P G pa ga ru sp hG _ _ h14) dX8_passHour_27 hn0 (congrArg Prod.fst hk0) rfl rfl rfl (by decide) (by decide) (Nat.le_of_ble_eq_true rfl) (by decide) (by decide) (fun r h2 hq => ?_)
    obtain ⟨rfl, rfl⟩ := hq
    rw [kgi_ga hKD.2.1 hok.1.1 hok.1.2.1 (by omega) hS, hSe]
    refine z_goto 34 dX8_passHour_30 (by decide) ?_
    subst hQ0
    rcases mga_spec I (nI (24 * D + 6 * h + j)) G with ⟨g, q1, q2, q3, q4⟩ | ⟨q1, -⟩
    · refine z_top (y := .int (nI g)) (congrArg Value.int q4) ?_
      exact l8_ph1 hG hD hWD hh hj hwt hwet hs q1 q2 q3 q4 _ rfl rfl rfl rfl
    · refine z_top (y := .int (-1)) (congrArg Value.int q1) ?_
      exact l8_ph0 hG hD hWD hh hj hwt hwet hs q1 _ rfl rfl rfl rfl
abbrev x8_beginWeek : ZX := (RX8, cX8_beginWeek, 2, none, "beginWeek", 0, 0, false)
set_option maxHeartbeats 4000000 in
theorem l8_bw {n : Nat} {K : Nat → Nat × Nat} {J : Nat → Nat → Int32} {L : Nat → Nat → Int64} {R : Nat → Nat → Option Nat} {Q : Option Value → ZH → Prop} {P G : Nat} {pa ga : Nat → Nat} {ru sp : Nat} (hG : kG n K R P G pa ga ru sp) {I : Nat → Nat → Int32} {D D0 : Nat} (hD7 : D % 7 = 0) (hQ : ∀ M, (∀ a, a < 28 → M a = J a) → kD M (mpn I D P) P G D0 pa ga → Q none (n, K, M, L, R)) : ∀ (m j : Nat) (M : Nat → Nat → Int32), P - j < m → j ≤ P → (∀ a, a < 28 → M a = J a) → kD M (mpn I D j) P G D0 pa ga → ∀ ls : Nat → Option Value, ls 0 = some (.ref 0) → ls 1 = some (.int (nI j)) → Zf x8_beginWeek 0 0 2 ls [] (n, K, M, L, R) Q := by
  intro m
  obtain ⟨⟨hn28, hP6, hG60⟩, ⟨hk0, hk1, hk2, hk3, hk4, hk5, hk6, hk7⟩, ⟨hr0, hr1, hr2, hr3, hr4, hr5, hr6⟩, ⟨hr7, hr8, hr9, hr10, hr11, hr12⟩, hB8, ⟨hT11, hR17, hT13⟩, ⟨hU18, hU23, hrs⟩, ⟨hgm, hgi⟩, ⟨hpm, hpi⟩⟩ := id hG
  have hn0 : 0 < n := by omega
  have hn1 : 1 < n := by omega
  have hn2 : 2 < n := by omega
  have hn3 : 3 < n := by omega
  have hn4 : 4 < n := by omega
  have hn5 : 5 < n := by omega
  have hn6 : 6 < n := by omega
  have hn7 : 7 < n := by omega
  have hn8 : 8 < n := by omega
  have hk8 : K 8 = (5, 0) := hB8.2.2.2.1
  have hn11 : 11 < n := by omega
  have hk11 : K 11 = (10, 0) := hT11.2.2.1
  induction m with
  | zero => intro j M h; omega
  | succ m ih =>
  intro j M hm hjP hF hs ls hl0 hl1
  have h13 := hs.1.1
  by_cases hj : j < P
  · obtain ⟨hpr, hpb⟩ := hpm j hj
    obtain ⟨hp28, hp5, hpk, htn0, htr0, hpn, hpo⟩ := id hpb
    obtain ⟨htna, hcna, htnk, hcnk, htn⟩ := id htn0
    obtain ⟨htra, hcoa, htrk, hcok, htr⟩ := id htr0
    have hpa : pa j < n := by omega
    refine z_iload_n (i := 1) dX8_beginWeek_2 rfl hl1 ?_
    refine z_aload_n (i := 0) dX8_beginWeek_3 rfl hl0 ?_
    refine z_gI zf8_77.g dX8_beginWeek_4 hn0 hk0 ?_
    rw [h13]
    refine z_icmp_ge 26 dX8_beginWeek_7 (by decide) (fun c_1 => absurd c_1 (fun q => by have := (zle (by omega) (by omega)).mp q; omega)) (fun _ => ?_)
    refine z_aload_n (i := 0) dX8_beginWeek_10 rfl hl0 ?_
    refine z_gR zf8_11.g dX8_beginWeek_11 hn0 hk0 hr0 ?_
    refine z_iload_n (i := 1) dX8_beginWeek_14 rfl hl1 ?_
    refine z_aaldP dX8_beginWeek_15 hn1 hk1 (zvin (by omega) (by omega)) (by rw [zcl (by omega)]; exact hpr) ?_
    refine z_iconst (v := 0) dX8_beginWeek_16 (by decide) ?_
    refine z_putI zf8_244 dX8_beginWeek_17 (fun h => by cases h) hpa hpk ?_
    refine z_iinc dX8_beginWeek_20 hl1 rfl ?_
    refine z_goto 2 dX8_beginWeek_23 (by decide) ?_
    rw [zinc]
    have D1 := kD_cnt hG hs hj (Or.inr (Or.inl ⟨rfl, rfl⟩)) 0
    rw [mpn_s I D j (by rw [if_pos hD7])] at D1
    exact ih (j + 1) _ (by omega) (by omega) (fun a ha => by rw [zu_ne _ _ _ (by omega)]; exact hF a ha) D1 _ hl0 rfl
  · have hje : j = P := by omega
    subst hje
    refine z_iload_n (i := 1) dX8_beginWeek_2 rfl hl1 ?_
    refine z_aload_n (i := 0) dX8_beginWeek_3 rfl hl0 ?_
    refine z_gI zf8_77.g dX8_beginWeek_4 hn0 hk0 ?_
    rw [h13]
    refine z_icmp_ge 26 dX8_beginWeek_7 (by decide) (fun _ => ?_) (fun c_1 => absurd ((zle (by omega) (by omega)).mpr (Nat.le_refl _)) c_1)
    refine z_vret dX8_beginWeek_26 rfl ?_
    exact hQ M hF hs
set_option maxHeartbeats 4000000 in
theorem c8_beginWeek (n : Nat) (K : Nat → Nat × Nat) (J : Nat → Nat → Int32) (L : Nat → Nat → Int64) (R : Nat → Nat → Option Nat) (P G : Nat) (pa ga : Nat → Nat) (ru sp : Nat) (hG : kG n K R P G pa ga ru sp) (I : Nat → Nat → Int32) (D D0 : Nat) (hD7 : D % 7 = 0) (hs : kD J I P G D0 pa ga) : Zm yX8_beginWeek cX8_beginWeek 2 none 0 0 0 0 [.ref 0] ((n, K, J, L, R)) (fun r h => r = none ∧ ∃ M, h = (n, K, M, L, R) ∧ (∀ a, a < 28 → M a = J a) ∧ kD M (mpn I D P) P G D0 pa ga) := by
  refine Zm_of (lg := false) (by decide) (fun _ => by simp [Value.category]) (fun _ => Nat.le_of_ble_eq_true rfl) ?_
  show Zf x8_beginWeek 0 0 0 (zargs [.ref 0]) [] ((n, K, J, L, R)) _
  refine z_iconst (v := 0) dX8_beginWeek_0 (by decide) ?_
  refine z_istore_n (i := 1) dX8_beginWeek_1 rfl (by decide) rfl ?_
  exact l8_bw (J := J) hG hD7 (fun M h1 h2 => ⟨rfl, M, rfl, h1, h2⟩) (P + 1) 0 J (by omega) (by omega) (fun _ _ => rfl) (by rw [mpn_0]; exact hs) _ rfl rfl
