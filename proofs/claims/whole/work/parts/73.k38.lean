theorem kRes_n {r m : Int32} {W : Nat} {q : Nat → Bool} (h : kRes r m W q) (hr : r = -1) : m = -1 := by
  rcases h with ⟨-, h⟩ | ⟨S, hS, e, -⟩
  · exact h
  · exact absurd (e.symm.trans hr) (nIne1 (by omega))
theorem kRes_y {r m : Int32} {W : Nat} {q : Nat → Bool} (h : kRes r m W q) (hr : ¬ r = -1) : ∃ S, S < 168 ∧ r = nI S ∧ m = nI (168 * W + S) ∧ q (168 * W + S) = true := h.resolve_left (fun q => hr q.1)
def kFg (J M : Nat → Nat → Int32) : Prop := ∀ a, a < 28 → a ≠ 9 → a ≠ 10 → M a = J a
theorem kFg.rf (J : Nat → Nat → Int32) : kFg J J := fun _ _ _ _ => rfl
theorem kFg.tr {J M N : Nat → Nat → Int32} (h : kFg J M) (h2 : kFg M N) : kFg J N := fun a x y z => (h2 a x y z).trans (h a x y z)
theorem kF9.g {J M : Nat → Nat → Int32} (h : kF9 J M) : kFg J M := fun a _ y z => h a y z
theorem kFg_u {J : Nat → Nat → Int32} {b k : Nat} {v : Int32} (hb : 28 ≤ b) : kFg J (zu J b k v) := fun a x _ _ => zu_ne _ _ _ (by omega)
def kLs (J I : Nat → Nat → Int32) (P G D C W : Nat) (pa ga : Nat → Nat) : Prop := kD J I P G D pa ga ∧ kOk I P G C ∧ kBw J I G W
theorem kcb_F2 {I I' : Nat → Nat → Int32} (hF : mF2 I I') (g : Nat) : kcb I' g = kcb I g := by
  unfold kcb
  rw [hF 25 (by decide) (by decide), hF 26 (by decide) (by decide)]
theorem kD_9 {n : Nat} {K : Nat → Nat × Nat} {R : Nat → Nat → Option Nat} {P G D : Nat} {pa ga : Nat → Nat} {ru sp : Nat} {J J' I : Nat → Nat → Int32} (hG : kG n K R P G pa ga ru sp) (h : kD J I P G D pa ga) (hJ : kF9 J J') : kD J' I P G D pa ga := kD_out hG h (fun a ha => hJ a (fun q => ha (by unfold kOut; omega)) (fun q => ha (by unfold kOut; omega)))
theorem mnot1 {I : Nat → Nat → Int32} {k : Nat} (h : I 31 k = 1) : mth I k = true := by unfold mth; rw [h]; rfl
theorem mnot0 {I : Nat → Nat → Int32} {k : Nat} (h : I 31 k = 0) : mth I k = false := by unfold mth; rw [h]; rfl
abbrev kQgw (n : Nat) (K : Nat → Nat × Nat) (J : Nat → Nat → Int32) (L : Nat → Nat → Int64) (R : Nat → Nat → Option Nat) (P G D C W : Nat) (pa ga : Nat → Nat) (I : Nat → Nat → Int32) (o : Option (Nat → Nat → Int32)) : Option Value → ZH → Prop := fun r h => r = some (.int (zb o.isSome)) ∧ ∃ M, h = (n, K, M, L, R) ∧ kFg J M ∧ kLs M (o.getD I) P G D C W pa ga ∧ mF2 I (o.getD I)
abbrev x8_givesWay : ZX := (RX8, cX8_givesWay, 5, (some .boolean), "givesWay", 3, 120, false)
set_option maxHeartbeats 4000000 in
theorem c8_givesWay (n : Nat) (K : Nat → Nat × Nat) (J : Nat → Nat → Int32) (L : Nat → Nat → Int64) (R : Nat → Nat → Option Nat) (P G : Nat) (pa ga : Nat → Nat) (ru sp : Nat) (hG : kG n K R P G pa ga ru sp) (I : Nat → Nat → Int32) (D C W k g : Nat) (hD : D ≤ 357) (hW : W ≤ 50) (hDW : D ≤ 7 * W + 6) (hs : kLs J I P G D C W pa ga) (hk : k < G) (hg : g < G) (hkg : k ≠ g) (h29k : I 29 k = nI W) (h29g : I 29 g = nI W) (hst1 : I 31 k = 1) (hst0 : I 31 g = 0) : Zm yX8_givesWay cX8_givesWay 5 (some .boolean) 3 120 0 0 [.ref 0, .ref (ga k), .ref (ga g)] (n, K, J, L, R) (kQgw n K J L R P G D C W pa ga I (mgw I P G D k g)) := by
  refine Zm_of (lg := false) (by decide) (fun _ => by simp [Value.category]) (fun _ => Nat.le_of_ble_eq_true rfl) ?_
  show Zf x8_givesWay 0 0 0 (zargs [.ref 0, .ref (ga k), .ref (ga g)]) [] (n, K, J, L, R) _
  generalize hQ0 : (kQgw n K J L R P G D C W pa ga I (mgw I P G D k g) : Option Value → ZH → Prop) = Q0
  obtain ⟨⟨hn28, hP6, hG60⟩, ⟨hk0, hk1, hk2, hk3, hk4, hk5, hk6, hk7⟩, ⟨hr0, hr1, hr2, hr3, hr4, hr5, hr6⟩, ⟨hr7, hr8, hr9, hr10, hr11, hr12⟩, hB8, ⟨hT11, hR17, hT13⟩, ⟨hU18, hU23, hrs⟩, ⟨hgm, hgi⟩, ⟨hpm, hpi⟩⟩ := id hG
  have hn0 : 0 < n := by omega
  have hn1 : 1 < n := by omega
  have hn2 : 2 < n := by omega
  have hn3 : 3 < n := by omega
  have hn4 : 4 < n := by omega
  have hn5 : 5 < n := by omega
  have hn6 : 6 < n := by omega
  have hn7 : 7 < n := by omega
  have hn8 : 8 < n := by omega
  have hk8 : K 8 = (5, 0) := hB8.2.2.2.1
  have hn11 : 11 < n := by omega
  have hk11 : K 11 = (10, 0) := hT11.2.2.1
  obtain ⟨-, hg28, hga, hgk⟩ := hgm k hk
  obtain ⟨-, hg282, hga2, hgk2⟩ := hgm g hg
  obtain ⟨hKD, hok, hB⟩ := id hs
  obtain ⟨⟨h13, h14, h15⟩, hdg, hdp, hdt, hdc⟩ := id hKD
  have hi := hok.1.1
  have mk := mnot1 hst1
  have mg := mnot0 hst0
  have g32 := knot (hi g hg) mg
  obtain ⟨w', Sk, hw', h29', hSk, -, h32⟩ := kthere (hi k hk) mk
  have hwe : w' = W := (zeq (by omega) (by omega)).mp (h29'.symm.trans h29k)
  subst hwe
  have h8k := kslot_there (hdg k hk) hW h29k hSk h32
  have hc1 : J (ga k) 2 = kcb I k := (hdg k hk).1.2.2.1
  have hc2 : J (ga g) 2 = kcb I g := (hdg g hg).1.2.2.1
  -- without k
  have ok1 : kOk (munl I k) P G C := kOk_off hok (Or.inl rfl)
  have F1 : mF2 I (munl I k) := mF2_off I k 0 (-1)
  have B1 : kBw (kdrop J 9 10 Sk (kcb I k)) (munl I k) G w' := kBw_off hB (Or.inl rfl) hok.1 hk mk h32 hW hSk
  have N1 := kF9_drop J Sk (kcb I k)
  have mg1 : mth (munl I k) g = false := by
    show mth (zu (zu I 31 k 0) 32 k (-1)) g = false
    rw [mth_off I k 0 (Or.inl rfl), if_neg (Ne.symm hkg)]; exact mg
  have mk1 : mth (munl I k) k = false := by
    show mth (zu (zu I 31 k 0) 32 k (-1)) k = false
    rw [mth_off I k 0 (Or.inl rfl), if_pos rfl]
  have r1 : ∀ b, 28 ≤ b → kdrop J 9 10 Sk (kcb I k) b = J b := fun b hb => N1 b (by omega) (by omega)
  have hfw := c8_firstWish n K (kdrop J 9 10 Sk (kcb I k)) L R P G pa ga ru sp hG (munl I k) D w' g (ga g) (-1) (-1) hga2 hgk2 hD hW hDW (by rw [N1 0 (by decide) (by decide)]; exact h15) hg ok1.1.1 B1 (kTr_cong hdt (N1 3 (by decide) (by decide)) (F1 16 (by decide) (by decide))) mg1 (by rw [F1 29 (by decide) (by decide)]; exact h29g) (by rw [r1 _ hg282, hc2, kcb_F2 F1]) (by rw [r1 _ hg282, F1 27 (by decide) (by decide)]; exact (hdg g hg).1.2.2.2.1) (by rw [r1 _ hg282, F1 29 (by decide) (by decide)]; exact (hdg g hg).2.1) (by rw [r1 _ hg282, F1 30 (by decide) (by decide)]; exact (hdg g hg).2.2.1) (Or.inl ⟨rfl, rfl⟩)
  refine z_aload_n (i := 0) dX8_givesWay_0 rfl rfl ?_
  refine z_gR zf8_42.g dX8_givesWay_1 hn0 hk0 hr7 ?_
  refine z_aload_n (i := 1) dX8_givesWay_4 rfl rfl ?_
  refine z_gI zf8_172.g dX8_givesWay_5 hga hgk ?_
  rw [h8k]
  refine z_aload_n (i := 1) dX8_givesWay_8 rfl rfl ?_
  refine z_gI zf8_214 dX8_givesWay_9 hga hgk ?_
  rw [hc1]
  refine z_callV (st := []) (mc2 := 0) (ms2 := 0) zi8_241 zv_yX0_drop (c0_drop n K J L R 8 9 10 Sk (kcb I k) hB8 hSk) dX8_givesWay_12 hn8 (congrArg Prod.fst hk8) rfl rfl rfl (by decide) (by decide) (Nat.le_of_ble_eq_true rfl) (by decide) (by decide) (fun r h2 hq => ?_)
  obtain ⟨rfl, rfl⟩ := hq
  try simp only [Option.toList, List.nil_append]
  refine z_aload_n (i := 0) dX8_givesWay_15 rfl rfl ?_
  refine z_aload_n (i := 2) dX8_givesWay_16 rfl rfl ?_
  refine z_iconst (v := (-1)) dX8_givesWay_17 (by decide) ?_
  refine z_callV (st := []) (mc2 := 0) (ms2 := 0) zi8_220 zv_yX8_firstWish hfw dX8_givesWay_18 hn0 (congrArg Prod.fst hk0) rfl rfl rfl (by decide) (by decide) (Nat.le_of_ble_eq_true rfl) (by decide) (by decide) (fun r h2 hq => ?_)
  obtain ⟨v1, rfl, rfl, hr1⟩ := hq
  refine z_istore_n (i := 3) dX8_givesWay_21 rfl (by decide) rfl ?_
  refine z_iload_n (i := 3) dX8_givesWay_22 rfl rfl ?_
  refine z_iconst (v := (-1)) dX8_givesWay_23 (by decide) ?_
  refine z_icmp_eq 99 dX8_givesWay_24 (by decide) (fun c_1 => ?_) (fun c_1 => ?_)
  · skip
    have m1 := kRes_n hr1 c_1
    have hback : kBw (kput (kdrop J 9 10 Sk (kcb I k)) 9 10 Sk (kcb I k)) I G w' := by
      have h0 := kBw_lay (S := Sk) B1 (ok1.1.1 k hk) hk mk1 hW hSk
      rw [kcb_F2 F1, ← h32, mback1 hst1] at h0
      exact h0
    refine z_aload_n (i := 0) dX8_givesWay_99 rfl rfl ?_
    refine z_gR zf8_42.g dX8_givesWay_100 hn0 hk0 hr7 ?_
    refine z_aload_n (i := 1) dX8_givesWay_103 rfl rfl ?_
    refine z_gI zf8_172.g dX8_givesWay_104 hga hgk ?_
    rw [r1 _ hg28, h8k]
    refine z_aload_n (i := 1) dX8_givesWay_107 rfl rfl ?_
    refine z_gI zf8_214 dX8_givesWay_108 hga hgk ?_
    rw [r1 _ hg28, hc1]
    refine z_callV (st := []) (mc2 := 0) (ms2 := 0) zi8_217 zv_yX0_put (c0_put n K _ L R 8 9 10 Sk (kcb I k) hB8 hSk) dX8_givesWay_111 hn8 (congrArg Prod.fst hk8) rfl rfl rfl (by decide) (by decide) (Nat.le_of_ble_eq_true rfl) (by decide) (by decide) (fun r h2 hq => ?_)
    obtain ⟨rfl, rfl⟩ := hq
    try simp only [Option.toList, List.nil_append]
    refine z_iconst (v := 0) dX8_givesWay_114 (by decide) ?_
    refine z_zret dX8_givesWay_115 rfl (by decide) ?_
    have hmg : mgw I P G D k g = none := by
      unfold mgw
      rw [mWk_of h29g hW, mWk_of h29k hW, h32, m1, if_pos (show (-1 : Int32) < 0 by decide)]
    subst hQ0
    unfold kQgw
    rw [hmg]
    exact ⟨rfl, _, rfl, (N1.tr (kF9_put _ Sk (kcb I k))).g, ⟨kD_9 hG hKD (N1.tr (kF9_put _ Sk (kcb I k))), hok, hback⟩, mF2.rf I⟩
  · skip
    obtain ⟨S1, hS1, e1, m1, q1⟩ := kRes_y hr1 c_1
    subst e1
    have ok2 := kOk_lay ok1 hG60 hg hW (show munl I k 29 g = nI w' by rw [F1 29 (by decide) (by decide)]; exact h29g) hS1 q1
    have F2 := F1.tr (mF2_lays (munl I k) g (nI (168 * w' + S1)))
    have B2 := kBw_lay B1 (ok1.1.1 g hg) hg mg1 hW hS1
    rw [kcb_F2 F1] at B2
    have N2 := N1.tr (kF9_put (kdrop J 9 10 Sk (kcb I k)) S1 (kcb I g))
    have r2 : ∀ b, 28 ≤ b → kput (kdrop J 9 10 Sk (kcb I k)) 9 10 S1 (kcb I g) b = J b := fun b hb => N2 b (by omega) (by omega)
    have mk2 : mth (mlays (munl I k) g (nI (168 * w' + S1))) k = false := by rw [mth_lays, if_neg hkg]; exact mk1
    have hfw2 := c8_firstWish n K (kput (kdrop J 9 10 Sk (kcb I k)) 9 10 S1 (kcb I g)) L R P G pa ga ru sp hG (mlays (munl I k) g (nI (168 * w' + S1))) D w' k (ga k) (nI Sk) (nI (168 * w' + Sk)) hga hgk hD hW hDW (by rw [N2 0 (by decide) (by decide)]; exact h15) hk ok2.1.1 B2 (kTr_cong hdt (N2 3 (by decide) (by decide)) (F2 16 (by decide) (by decide))) mk2 (by rw [F2 29 (by decide) (by decide)]; exact h29k) (by rw [r2 _ hg28, hc1, kcb_F2 F2]) (by rw [r2 _ hg28, F2 27 (by decide) (by decide)]; exact (hdg k hk).1.2.2.2.1) (by rw [r2 _ hg28, F2 29 (by decide) (by decide)]; exact (hdg k hk).2.1) (by rw [r2 _ hg28, F2 30 (by decide) (by decide)]; exact (hdg k hk).2.2.1) (Or.inr ⟨Sk, hSk, rfl, rfl⟩)
    refine z_aload_n (i := 0) dX8_givesWay_27 rfl rfl ?_
    refine z_gR zf8_42.g dX8_givesWay_28 hn0 hk0 hr7 ?_
    refine z_iload_n (i := 3) dX8_givesWay_31 rfl rfl ?_
    refine z_aload_n (i := 2) dX8_givesWay_32 rfl rfl ?_
    refine z_gI zf8_214 dX8_givesWay_33 hga2 hgk2 ?_
    rw [r1 _ hg282, hc2]
    refine z_callV (st := []) (mc2 := 0) (ms2 := 0) zi8_217 zv_yX0_put (c0_put n K _ L R 8 9 10 S1 (kcb I g) hB8 hS1) dX8_givesWay_36 hn8 (congrArg Prod.fst hk8) rfl rfl rfl (by decide) (by decide) (Nat.le_of_ble_eq_true rfl) (by decide) (by decide) (fun r h2 hq => ?_)
    obtain ⟨rfl, rfl⟩ := hq
    try simp only [Option.toList, List.nil_append]
    refine z_aload_n (i := 0) dX8_givesWay_39 rfl rfl ?_
    refine z_aload_n (i := 1) dX8_givesWay_40 rfl rfl ?_
    refine z_aload_n (i := 1) dX8_givesWay_41 rfl rfl ?_
    refine z_gI zf8_172.g dX8_givesWay_42 hga hgk ?_
    rw [r2 _ hg28, h8k]
    refine z_callV (st := []) (mc2 := 0) (ms2 := 0) zi8_220 zv_yX8_firstWish hfw2 dX8_givesWay_45 hn0 (congrArg Prod.fst hk0) rfl rfl rfl (by decide) (by decide) (Nat.le_of_ble_eq_true rfl) (by decide) (by decide) (fun r h2 hq => ?_)
    obtain ⟨v2, rfl, rfl, hr2⟩ := hq
    refine z_istore (i := 4) dX8_givesWay_48 (by decide) rfl ?_
    refine z_iload dX8_givesWay_50 rfl ?_
    refine z_iconst (v := (-1)) dX8_givesWay_52 (by decide) ?_
    refine z_icmp_eq 87 dX8_givesWay_53 (by decide) (fun c_2 => ?_) (fun c_2 => ?_)
    · skip
      have m2 := kRes_n hr2 c_2
      have B4 : kBw (kdrop (kput (kdrop J 9 10 Sk (kcb I k)) 9 10 S1 (kcb I g)) 9 10 S1 (kcb I g)) (munl I k) G w' := by
        have h0 := kBw_off (v := 0) (g := g) (S := S1) B2 (Or.inl rfl) ok2.1 hg (by rw [mth_lays, if_pos rfl]) (by rw [l32_lays, if_pos rfl]) hW hS1
        rw [kcb_F2 F2] at h0
        have e0 : munl (mlays (munl I k) g (nI (168 * w' + S1))) g = munl I k := by
          have a1 : munl I k 31 g = 0 := by
            unfold munl
            rw [zu_apply, if_neg (by omega), zu_apply, if_neg (by omega)]; exact hst0
          have a2 : munl I k 32 g = -1 := by
            unfold munl
            rw [zu_apply, if_neg (by omega), zu_apply, if_neg (by omega)]; exact g32
          show zu (zu (zu (zu (munl I k) 31 g 1) 32 g (nI (168 * w' + S1))) 31 g 0) 32 g (-1) = munl I k
          rw [zu_comm (zu (munl I k) 31 g 1) _ 0 (by omega), zu_zu, zu_zu, zu_set a1, zu_set a2]
        rw [← e0]
        exact h0
      have N3 := N2.tr (kF9_drop (kput (kdrop J 9 10 Sk (kcb I k)) 9 10 S1 (kcb I g)) S1 (kcb I g))
      have r3 : ∀ b, 28 ≤ b → kdrop (kput (kdrop J 9 10 Sk (kcb I k)) 9 10 S1 (kcb I g)) 9 10 S1 (kcb I g) b = J b := fun b hb => N3 b (by omega) (by omega)
      refine z_aload_n (i := 0) dX8_givesWay_87 rfl rfl ?_
      refine z_gR zf8_42.g dX8_givesWay_88 hn0 hk0 hr7 ?_
      refine z_iload_n (i := 3) dX8_givesWay_91 rfl rfl ?_
      refine z_aload_n (i := 2) dX8_givesWay_92 rfl rfl ?_
      refine z_gI zf8_214 dX8_givesWay_93 hga2 hgk2 ?_
      rw [r2 _ hg282, hc2]
      refine z_callV (st := []) (mc2 := 0) (ms2 := 0) zi8_241 zv_yX0_drop (c0_drop n K _ L R 8 9 10 S1 (kcb I g) hB8 hS1) dX8_givesWay_96 hn8 (congrArg Prod.fst hk8) rfl rfl rfl (by decide) (by decide) (Nat.le_of_ble_eq_true rfl) (by decide) (by decide) (fun r h2 hq => ?_)
      obtain ⟨rfl, rfl⟩ := hq
      try simp only [Option.toList, List.nil_append]
      have hback : kBw (kput (kdrop (kput (kdrop J 9 10 Sk (kcb I k)) 9 10 S1 (kcb I g)) 9 10 S1 (kcb I g)) 9 10 Sk (kcb I k)) I G w' := by
        have h0 := kBw_lay (S := Sk) B4 (ok1.1.1 k hk) hk mk1 hW hSk
        rw [kcb_F2 F1, ← h32, mback1 hst1] at h0
        exact h0
      refine z_aload_n (i := 0) dX8_givesWay_99 rfl rfl ?_
      refine z_gR zf8_42.g dX8_givesWay_100 hn0 hk0 hr7 ?_
      refine z_aload_n (i := 1) dX8_givesWay_103 rfl rfl ?_
      refine z_gI zf8_172.g dX8_givesWay_104 hga hgk ?_
      rw [r3 _ hg28, h8k]
      refine z_aload_n (i := 1) dX8_givesWay_107 rfl rfl ?_
      refine z_gI zf8_214 dX8_givesWay_108 hga hgk ?_
      rw [r3 _ hg28, hc1]
      refine z_callV (st := []) (mc2 := 0) (ms2 := 0) zi8_217 zv_yX0_put (c0_put n K _ L R 8 9 10 Sk (kcb I k) hB8 hSk) dX8_givesWay_111 hn8 (congrArg Prod.fst hk8) rfl rfl rfl (by decide) (by decide) (Nat.le_of_ble_eq_true rfl) (by decide) (by decide) (fun r h2 hq => ?_)
      obtain ⟨rfl, rfl⟩ := hq
      try simp only [Option.toList, List.nil_append]
      refine z_iconst (v := 0) dX8_givesWay_114 (by decide) ?_
      refine z_zret dX8_givesWay_115 rfl (by decide) ?_
      have hmg : mgw I P G D k g = none := by
        unfold mgw
        rw [mWk_of h29g hW, mWk_of h29k hW, h32, m1, if_neg (nIneg (show 168 * w' + S1 ≤ 1000000 by omega)), m2, if_pos (show (-1 : Int32) < 0 by decide)]
      subst hQ0
      unfold kQgw
      rw [hmg]
      exact ⟨rfl, _, rfl, (N3.tr (kF9_put _ Sk (kcb I k))).g, ⟨kD_9 hG hKD (N3.tr (kF9_put _ Sk (kcb I k))), hok, hback⟩, mF2.rf I⟩
    · skip
      obtain ⟨S2, hS2, e2, m2, q2⟩ := kRes_y hr2 c_2
      subst e2
      have ok3 := kOk_lay ok2 hG60 hk hW (show mlays (munl I k) g (nI (168 * w' + S1)) 29 k = nI w' by rw [F2 29 (by decide) (by decide)]; exact h29k) hS2 q2
      have B3 := kBw_lay B2 (ok2.1.1 k hk) hk mk2 hW hS2
      rw [kcb_F2 F2] at B3
      refine z_aload_n (i := 0) dX8_givesWay_56 rfl rfl ?_
      refine z_gR zf8_42.g dX8_givesWay_57 hn0 hk0 hr7 ?_
      refine z_iload dX8_givesWay_60 rfl ?_
      refine z_aload_n (i := 1) dX8_givesWay_62 rfl rfl ?_
      refine z_gI zf8_214 dX8_givesWay_63 hga hgk ?_
      rw [r2 _ hg28, hc1]
      refine z_callV (st := []) (mc2 := 0) (ms2 := 0) zi8_217 zv_yX0_put (c0_put n K _ L R 8 9 10 S2 (kcb I k) hB8 hS2) dX8_givesWay_66 hn8 (congrArg Prod.fst hk8) rfl rfl rfl (by decide) (by decide) (Nat.le_of_ble_eq_true rfl) (by decide) (by decide) (fun r h2 hq => ?_)
      obtain ⟨rfl, rfl⟩ := hq
      try simp only [Option.toList, List.nil_append]
      refine z_aload_n (i := 1) dX8_givesWay_69 rfl rfl ?_
      refine z_iload dX8_givesWay_70 rfl ?_
      refine z_putI zf8_172 dX8_givesWay_72 (fun h => by cases h) hga hgk ?_
      refine z_aload_n (i := 2) dX8_givesWay_75 rfl rfl ?_
      refine z_iload_n (i := 3) dX8_givesWay_76 rfl rfl ?_
      refine z_putI zf8_172 dX8_givesWay_77 (fun h => by cases h) hga2 hgk2 ?_
      refine z_aload_n (i := 2) dX8_givesWay_80 rfl rfl ?_
      refine z_iconst (v := 1) dX8_givesWay_81 (by decide) ?_
      refine z_putI zf8_107 dX8_givesWay_82 (fun h => by cases h) hga2 hgk2 ?_
      refine z_iconst (v := 1) dX8_givesWay_85 (by decide) ?_
      refine z_zret dX8_givesWay_86 rfl (by decide) ?_
      have hmg : mgw I P G D k g = some (mlays (mlays (munl I k) g (nI (168 * w' + S1))) k (nI (168 * w' + S2))) := by
        unfold mgw
        rw [mWk_of h29g hW, mWk_of h29k hW, h32, m1, if_neg (nIneg (show 168 * w' + S1 ≤ 1000000 by omega)), m2, if_neg (nIneg (show 168 * w' + S2 ≤ 1000000 by omega))]
      subst hQ0
      unfold kQgw
      rw [hmg]
      have N3 := N2.tr (kF9_put (kput (kdrop J 9 10 Sk (kcb I k)) 9 10 S1 (kcb I g)) S2 (kcb I k))
      have D3 := kD_9 hG hKD N3
      have D4 := kD_lay hG D3 hk hW h29k hS2 (by rw [hst1]; decide) (by rw [hst1]; decide)
      rw [zu_set (show zu (kput (kput (kdrop J 9 10 Sk (kcb I k)) 9 10 S1 (kcb I g)) 9 10 S2 (kcb I k)) (ga k) 8 (nI S2) (ga k) 7 = 1 by rw [zu_apply, if_neg (by omega), N3 _ (by omega) (by omega), (hdg k hk).2.2.2.1]; exact hst1)] at D4
      have D5 := kD_lay hG D4 hg hW (show mlays I k (nI (168 * w' + S2)) 29 g = nI w' by rw [mF2_lays I k _ 29 (by decide) (by decide)]; exact h29g) hS1 (by rw [l31_lays, if_neg (Ne.symm hkg), hst0]; decide) (by rw [l31_lays, if_neg (Ne.symm hkg), hst0]; decide)
      rw [← mlays_swap hkg] at D5
      exact ⟨rfl, _, rfl, N3.g.tr ((kFg_u hg28).tr ((kFg_u hg282).tr (kFg_u hg282))), ⟨D5, ok3, kBw_cong B3 (by rw [zu_ne _ _ _ (by omega), zu_ne _ _ _ (by omega), zu_ne _ _ _ (by omega)]) (by rw [zu_ne _ _ _ (by omega), zu_ne _ _ _ (by omega), zu_ne _ _ _ (by omega)])⟩, F2.tr (mF2_lays _ k _)⟩
