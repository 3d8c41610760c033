abbrev kQlk (n : Nat) (K : Nat → Nat × Nat) (J : Nat → Nat → Int32) (L : Nat → Nat → Int64) (R : Nat → Nat → Option Nat) (P G D C W : Nat) (pa ga : Nat → Nat) (I : Nat → Nat → Int32) (o : Option (Nat → Nat → Int32)) : Option Value → ZH → Prop := fun r h => r = none ∧ ∃ M, h = (n, K, M, L, R) ∧ kFg J M ∧ kLs M (o.getD I) P G D C W pa ga ∧ mF2 I (o.getD I)
theorem mlk_e (I : Nat → Nat → Int32) (P G D g k m : Nat) : mlk I P G D g k (m + 1) = if I 31 k = 1 ∧ I 29 k = I 29 g then (match mgw I P G D k g with | some J => some J | none => mlk I P G D g (k + 1) m) else mlk I P G D g (k + 1) m := rfl
abbrev x8_layInPlaceOfAnother : ZX := (RX8, cX8_layInPlaceOfAnother, 4, none, "layInPlaceOfAnother", 4, 160, false)
set_option maxHeartbeats 4000000 in
theorem l8_lipX {n : Nat} {K : Nat → Nat × Nat} {R : Nat → Nat → Option Nat} {P G : Nat} {pa ga : Nat → Nat} {ru sp : Nat} (hG : kG n K R P G pa ga ru sp) {L : Nat → Nat → Int64} {Q : Option Value → ZH → Prop} {j : Nat} (hj : j ≤ 100) (M : Nat → Nat → Int32) (h14 : M 0 14 = nI G) (ls : Nat → Option Value) (hl0 : ls 0 = some (.ref 0)) (hl2 : ls 2 = some (.int 1)) (hl3 : ls 3 = some (.int (nI j))) (hQ : Q none (n, K, M, L, R)) : Zf x8_layInPlaceOfAnother 0 0 4 ls [] (n, K, M, L, R) Q := by
  obtain ⟨⟨hn28, hP6, hG60⟩, ⟨hk0, hk1, hk2, hk3, hk4, hk5, hk6, hk7⟩, ⟨hr0, hr1, hr2, hr3, hr4, hr5, hr6⟩, ⟨hr7, hr8, hr9, hr10, hr11, hr12⟩, hB8, ⟨hT11, hR17, hT13⟩, ⟨hU18, hU23, hrs⟩, ⟨hgm, hgi⟩, ⟨hpm, hpi⟩⟩ := id hG
  have hn0 : 0 < n := by omega
  have hn1 : 1 < n := by omega
  have hn2 : 2 < n := by omega
  have hn3 : 3 < n := by omega
  have hn4 : 4 < n := by omega
  have hn5 : 5 < n := by omega
  have hn6 : 6 < n := by omega
  have hn7 : 7 < n := by omega
  have hn8 : 8 < n := by omega
  have hk8 : K 8 = (5, 0) := hB8.2.2.2.1
  have hn11 : 11 < n := by omega
  have hk11 : K 11 = (10, 0) := hT11.2.2.1
  refine z_iload_n (i := 3) dX8_layInPlaceOfAnother_4 rfl hl3 ?_
  refine z_aload_n (i := 0) dX8_layInPlaceOfAnother_5 rfl hl0 ?_
  refine z_gI zf8_81.g dX8_layInPlaceOfAnother_6 hn0 hk0 ?_
  rw [h14]
  refine z_icmp_ge 63 dX8_layInPlaceOfAnother_9 (by decide) (fun c_1 => ?_) (fun c_1 => ?_)
  · skip
    refine z_vret dX8_layInPlaceOfAnother_63 rfl ?_
    exact hQ
  · skip
    refine z_iload_n (i := 2) dX8_layInPlaceOfAnother_12 rfl hl2 ?_
    refine z_if_ne 63 dX8_layInPlaceOfAnother_13 (by decide) (fun _ => ?_) (fun c_2 => absurd c_2 (by decide))
    refine z_vret dX8_layInPlaceOfAnother_63 rfl ?_
    exact hQ
set_option maxHeartbeats 4000000 in
theorem l8_lip {n : Nat} {K : Nat → Nat × Nat} {J : Nat → Nat → Int32} {L : Nat → Nat → Int64} {R : Nat → Nat → Option Nat} {Q : Option Value → ZH → Prop} {P G : Nat} {pa ga : Nat → Nat} {ru sp : Nat} (hG : kG n K R P G pa ga ru sp) {I : Nat → Nat → Int32} {D C W g : Nat} (hD : D ≤ 357) (hW : W ≤ 50) (hDW : D ≤ 7 * W + 6) (hg : g < G) (h29g : I 29 g = nI W) (hst0 : I 31 g = 0) (hQ : ∀ M, kFg J M → kLs M ((mlk I P G D g 0 G).getD I) P G D C W pa ga → mF2 I ((mlk I P G D g 0 G).getD I) → Q none (n, K, M, L, R)) : ∀ (m j : Nat) (M : Nat → Nat → Int32), G - j < m → j ≤ G → kFg J M → kLs M I P G D C W pa ga → mlk I P G D g j (G - j) = mlk I P G D g 0 G → ∀ ls : Nat → Option Value, ls 0 = some (.ref 0) → ls 1 = some (.ref (ga g)) → ls 2 = some (.int 0) → ls 3 = some (.int (nI j)) → Zf x8_layInPlaceOfAnother 0 0 4 ls [] (n, K, M, L, R) Q := by
  intro m
  obtain ⟨⟨hn28, hP6, hG60⟩, ⟨hk0, hk1, hk2, hk3, hk4, hk5, hk6, hk7⟩, ⟨hr0, hr1, hr2, hr3, hr4, hr5, hr6⟩, ⟨hr7, hr8, hr9, hr10, hr11, hr12⟩, hB8, ⟨hT11, hR17, hT13⟩, ⟨hU18, hU23, hrs⟩, ⟨hgm, hgi⟩, ⟨hpm, hpi⟩⟩ := id hG
  have hn0 : 0 < n := by omega
  have hn1 : 1 < n := by omega
  have hn2 : 2 < n := by omega
  have hn3 : 3 < n := by omega
  have hn4 : 4 < n := by omega
  have hn5 : 5 < n := by omega
  have hn6 : 6 < n := by omega
  have hn7 : 7 < n := by omega
  have hn8 : 8 < n := by omega
  have hk8 : K 8 = (5, 0) := hB8.2.2.2.1
  have hn11 : 11 < n := by omega
  have hk11 : K 11 = (10, 0) := hT11.2.2.1
  obtain ⟨-, hg281, hga1, hgk1⟩ := hgm g hg
  induction m with
  | zero => intro j M h; omega
  | succ m ih =>
  intro j M hm hjG hF hs hlk ls hl0 hl1 hl2 hl3
  obtain ⟨hKD, hok, hB⟩ := id hs
  obtain ⟨⟨h13, h14, h15⟩, hdg, hdp, hdt, hdc⟩ := id hKD
  have e5g : M (ga g) 5 = I 29 g := (hdg g hg).2.1
  by_cases hj : j < G
  · obtain ⟨hgr, hg28, hga, hgk⟩ := hgm j hj
    have e5 : M (ga j) 5 = I 29 j := (hdg j hj).2.1
    have e7 : M (ga j) 7 = I 31 j := (hdg j hj).2.2.2.1
    rw [show G - j = (G - (j + 1)) + 1 by omega, mlk_e] at hlk
    refine z_iload_n (i := 3) dX8_layInPlaceOfAnother_4 rfl hl3 ?_
    refine z_aload_n (i := 0) dX8_layInPlaceOfAnother_5 rfl hl0 ?_
    refine z_gI zf8_81.g dX8_layInPlaceOfAnother_6 hn0 hk0 ?_
    rw [h14]
    refine z_icmp_ge 63 dX8_layInPlaceOfAnother_9 (by decide) (fun c_1 => absurd c_1 (fun q => by have := (zle (by omega) (by omega)).mp q; omega)) (fun _ => ?_)
    refine z_iload_n (i := 2) dX8_layInPlaceOfAnother_12 rfl hl2 ?_
    refine z_if_ne 63 dX8_layInPlaceOfAnother_13 (by decide) (fun c_2 => absurd c_2 (fun q => q rfl)) (fun _ => ?_)
    refine z_aload_n (i := 0) dX8_layInPlaceOfAnother_16 rfl hl0 ?_
    refine z_gR zf8_17.g dX8_layInPlaceOfAnother_17 hn0 hk0 hr1 ?_
    refine z_iload_n (i := 3) dX8_layInPlaceOfAnother_20 rfl hl3 ?_
    refine z_aaldQ dX8_layInPlaceOfAnother_21 hn2 hk2 (zvin (by omega) (by omega)) (by rw [zcl (by omega)]; exact hgr) ?_
    refine z_gI zf8_104 dX8_layInPlaceOfAnother_22 hga hgk ?_
    rw [e5]
    refine z_aload_n (i := 1) dX8_layInPlaceOfAnother_25 rfl hl1 ?_
    refine z_gI zf8_104 dX8_layInPlaceOfAnother_26 hga1 hgk1 ?_
    rw [e5g]
    refine z_icmp_ne 57 dX8_layInPlaceOfAnother_29 (by decide) (fun c_3 => ?_) (fun c_3 => ?_)
    · skip
      refine z_iinc dX8_layInPlaceOfAnother_57 hl3 rfl ?_
      refine z_goto 4 dX8_layInPlaceOfAnother_60 (by decide) ?_
      rw [zinc]
      rw [if_neg (fun q => c_3 q.2)] at hlk
      exact ih (j + 1) M (by omega) (by omega) hF hs hlk _ hl0 hl1 hl2 rfl
    · skip
      refine z_aload_n (i := 0) dX8_layInPlaceOfAnother_32 rfl hl0 ?_
      refine z_gR zf8_17.g dX8_layInPlaceOfAnother_33 hn0 hk0 hr1 ?_
      refine z_iload_n (i := 3) dX8_layInPlaceOfAnother_36 rfl hl3 ?_
      refine z_aaldQ dX8_layInPlaceOfAnother_37 hn2 hk2 (zvin (by omega) (by omega)) (by rw [zcl (by omega)]; exact hgr) ?_
      refine z_gI zf8_107.g dX8_layInPlaceOfAnother_38 hga hgk ?_
      rw [e7]
      refine z_iconst (v := 1) dX8_layInPlaceOfAnother_41 (by decide) ?_
      refine z_icmp_ne 57 dX8_layInPlaceOfAnother_42 (by decide) (fun c_4 => ?_) (fun c_4 => ?_)
      · skip
        refine z_iinc dX8_layInPlaceOfAnother_57 hl3 rfl ?_
        refine z_goto 4 dX8_layInPlaceOfAnother_60 (by decide) ?_
        rw [zinc]
        rw [if_neg (fun q => c_4 q.1)] at hlk
        exact ih (j + 1) M (by omega) (by omega) hF hs hlk _ hl0 hl1 hl2 rfl
      · skip
        have hcd : I 31 j = 1 ∧ I 29 j = I 29 g := ⟨c_4, c_3⟩
        rw [if_pos hcd] at hlk
        have hne : j ≠ g := fun q => by
          have := hcd.1
          rw [q, hst0] at this
          exact absurd this (by decide)
        have hgw := c8_givesWay n K M L R P G pa ga ru sp hG I D C W j g hD hW hDW hs hj hg hne (hcd.2.trans h29g) h29g hcd.1 hst0
        refine z_aload_n (i := 0) dX8_layInPlaceOfAnother_45 rfl hl0 ?_
        refine z_aload_n (i := 0) dX8_layInPlaceOfAnother_46 rfl hl0 ?_
        refine z_gR zf8_17.g dX8_layInPlaceOfAnother_47 hn0 hk0 hr1 ?_
        refine z_iload_n (i := 3) dX8_layInPlaceOfAnother_50 rfl hl3 ?_
        refine z_aaldQ dX8_layInPlaceOfAnother_51 hn2 hk2 (zvin (by omega) (by omega)) (by rw [zcl (by omega)]; exact hgr) ?_
        refine z_aload_n (i := 1) dX8_layInPlaceOfAnother_52 rfl hl1 ?_
        refine z_callV (st := []) (mc2 := 0) (ms2 := 0) zi8_237 zv_yX8_givesWay hgw dX8_layInPlaceOfAnother_53 hn0 (congrArg Prod.fst hk0) rfl rfl rfl (by decide) (by decide) (Nat.le_of_ble_eq_true rfl) (by decide) (by decide) (fun r h2 hq => ?_)
        obtain ⟨rfl, M2, rfl, hF2, hs2, hm2⟩ := hq
        refine z_istore_n (i := 2) dX8_layInPlaceOfAnother_56 rfl (by decide) rfl ?_
        refine z_iinc dX8_layInPlaceOfAnother_57 hl3 rfl ?_
        refine z_goto 4 dX8_layInPlaceOfAnother_60 (by decide) ?_
        rw [zinc]
        cases ho : mgw I P G D j g with
        | none =>
          rw [ho] at hlk hs2 hm2
          exact ih (j + 1) M2 (by omega) (by omega) (hF.tr hF2) hs2 hlk _ hl0 hl1 rfl rfl
        | some I2 =>
          rw [ho] at hlk hs2 hm2
          rw [← hlk] at hQ
          exact l8_lipX hG (j := j + 1) (by omega) M2 hs2.1.1.2.1 _ hl0 rfl rfl (hQ M2 (hF.tr hF2) hs2 hm2)
  · have hje : j = G := by omega
    subst hje
    rw [Nat.sub_self] at hlk
    rw [← hlk] at hQ
    refine z_iload_n (i := 3) dX8_layInPlaceOfAnother_4 rfl hl3 ?_
    refine z_aload_n (i := 0) dX8_layInPlaceOfAnother_5 rfl hl0 ?_
    refine z_gI zf8_81.g dX8_layInPlaceOfAnother_6 hn0 hk0 ?_
    rw [h14]
    refine z_icmp_ge 63 dX8_layInPlaceOfAnother_9 (by decide) (fun _ => ?_) (fun c_1 => absurd ((zle (by omega) (by omega)).mpr (Nat.le_refl _)) c_1)
    refine z_vret dX8_layInPlaceOfAnother_63 rfl ?_
    exact hQ M hF hs (mF2.rf I)
set_option maxHeartbeats 4000000 in
theorem c8_layInPlaceOfAnother (n : Nat) (K : Nat → Nat × Nat) (J : Nat → Nat → Int32) (L : Nat → Nat → Int64) (R : Nat → Nat → Option Nat) (P G : Nat) (pa ga : Nat → Nat) (ru sp : Nat) (hG : kG n K R P G pa ga ru sp) (I : Nat → Nat → Int32) (D C W g : Nat) (hD : D ≤ 357) (hW : W ≤ 50) (hDW : D ≤ 7 * W + 6) (hs : kLs J I P G D C W pa ga) (hg : g < G) (h29g : I 29 g = nI W) (hst0 : I 31 g = 0) : Zm yX8_layInPlaceOfAnother cX8_layInPlaceOfAnother 4 none 4 160 0 0 [.ref 0, .ref (ga g)] ((n, K, J, L, R)) (kQlk n K J L R P G D C W pa ga I (mlk I P G D g 0 G)) := by
  refine Zm_of (lg := false) (by decide) (fun _ => by simp [Value.category]) (fun _ => Nat.le_of_ble_eq_true rfl) ?_
  show Zf x8_layInPlaceOfAnother 0 0 0 (zargs [.ref 0, .ref (ga g)]) [] ((n, K, J, L, R)) _
  generalize hQ0 : (kQlk n K J L R P G D C W pa ga I (mlk I P G D g 0 G) : Option Value → ZH → Prop) = Q0
  refine z_iconst (v := 0) dX8_layInPlaceOfAnother_0 (by decide) ?_
  refine z_istore_n (i := 2) dX8_layInPlaceOfAnother_1 rfl (by decide) rfl ?_
  refine z_iconst (v := 0) dX8_layInPlaceOfAnother_2 (by decide) ?_
  refine z_istore_n (i := 3) dX8_layInPlaceOfAnother_3 rfl (by decide) rfl ?_
  subst hQ0
  exact l8_lip (J := J) hG hD hW hDW hg h29g hst0 (fun M h1 h2 h3 => ⟨rfl, M, rfl, h1, h2, h3⟩) (G + 1) 0 J (by omega) (by omega) (kFg.rf J) hs rfl _ rfl rfl rfl rfl
abbrev x8_layGame : ZX := (RX8, cX8_layGame, 3, none, "layGame", 5, 200, false)
set_option maxHeartbeats 4000000 in
theorem c8_layGame (n : Nat) (K : Nat → Nat × Nat) (J : Nat → Nat → Int32) (L : Nat → Nat → Int64) (R : Nat → Nat → Option Nat) (P G : Nat) (pa ga : Nat → Nat) (ru sp : Nat) (hG : kG n K R P G pa ga ru sp) (I : Nat → Nat → Int32) (D C W g : Nat) (hD : D ≤ 357) (hW : W ≤ 50) (hDW : D ≤ 7 * W + 6) (hs : kLs J I P G D C W pa ga) (hg : g < G) (h29g : I 29 g = nI W) (hst0 : I 31 g = 0) : Zm yX8_layGame cX8_layGame 3 none 5 200 0 0 [.ref 0, .ref (ga g)] ((n, K, J, L, R)) (kQlk n K J L R P G D C W pa ga I (mlo I P G D g)) := by
  refine Zm_of (lg := false) (by decide) (fun _ => by simp [Value.category]) (fun _ => Nat.le_of_ble_eq_true rfl) ?_
  show Zf x8_layGame 0 0 0 (zargs [.ref 0, .ref (ga g)]) [] ((n, K, J, L, R)) _
  generalize hQ0 : (kQlk n K J L R P G D C W pa ga I (mlo I P G D g) : Option Value → ZH → Prop) = Q0
  obtain ⟨⟨hn28, hP6, hG60⟩, ⟨hk0, hk1, hk2, hk3, hk4, hk5, hk6, hk7⟩, ⟨hr0, hr1, hr2, hr3, hr4, hr5, hr6⟩, ⟨hr7, hr8, hr9, hr10, hr11, hr12⟩, hB8, ⟨hT11, hR17, hT13⟩, ⟨hU18, hU23, hrs⟩, ⟨hgm, hgi⟩, ⟨hpm, hpi⟩⟩ := id hG
  have hn0 : 0 < n := by omega
  have hn1 : 1 < n := by omega
  have hn2 : 2 < n := by omega
  have hn3 : 3 < n := by omega
  have hn4 : 4 < n := by omega
  have hn5 : 5 < n := by omega
  have hn6 : 6 < n := by omega
  have hn7 : 7 < n := by omega
  have hn8 : 8 < n := by omega
  have hk8 : K 8 = (5, 0) := hB8.2.2.2.1
  have hn11 : 11 < n := by omega
  have hk11 : K 11 = (10, 0) := hT11.2.2.1
  obtain ⟨-, hg28, hga, hgk⟩ := hgm g hg
  obtain ⟨hKD, hok, hB⟩ := id hs
  obtain ⟨⟨h13, h14, h15⟩, hdg, hdp, hdt, hdc⟩ := id hKD
  have hi := hok.1.1
  have mg := mnot0 hst0
  have hc1 : J (ga g) 2 = kcb I g := (hdg g hg).1.2.2.1
  have hfw := c8_firstWish n K J L R P G pa ga ru sp hG I D W g (ga g) (-1) (-1) hga hgk hD hW hDW h15 hg hi hB hdt mg h29g hc1 (hdg g hg).1.2.2.2.1 (hdg g hg).2.1 (hdg g hg).2.2.1 (Or.inl ⟨rfl, rfl⟩)
  refine z_aload_n (i := 0) dX8_layGame_0 rfl rfl ?_
  refine z_aload_n (i := 1) dX8_layGame_1 rfl rfl ?_
  refine z_iconst (v := (-1)) dX8_layGame_2 (by decide) ?_
  refine z_callV (st := []) (mc2 := 0) (ms2 := 0) zi8_220 zv_yX8_firstWish hfw dX8_layGame_3 hn0 (congrArg Prod.fst hk0) rfl rfl rfl (by decide) (by decide) (Nat.le_of_ble_eq_true rfl) (by decide) (by decide) (fun r h2 hq => ?_)
  obtain ⟨v1, rfl, rfl, hr1⟩ := hq
  refine z_istore_n (i := 2) dX8_layGame_6 rfl (by decide) rfl ?_
  refine z_iload_n (i := 2) dX8_layGame_7 rfl rfl ?_
  refine z_iconst (v := (-1)) dX8_layGame_8 (by decide) ?_
  refine z_icmp_ne 20 dX8_layGame_9 (by decide) (fun c_1 => ?_) (fun c_1 => ?_)
  · skip
    obtain ⟨S1, hS1, e1, m1, q1⟩ := kRes_y hr1 c_1
    subst e1
    refine z_aload_n (i := 0) dX8_layGame_20 rfl rfl ?_
    refine z_gR zf8_42.g dX8_layGame_21 hn0 hk0 hr7 ?_
    refine z_iload_n (i := 2) dX8_layGame_24 rfl rfl ?_
    refine z_aload_n (i := 1) dX8_layGame_25 rfl rfl ?_
    refine z_gI zf8_214 dX8_layGame_26 hga hgk ?_
    rw [hc1]
    refine z_callV (st := []) (mc2 := 0) (ms2 := 0) zi8_217 zv_yX0_put (c0_put n K J L R 8 9 10 S1 (kcb I g) hB8 hS1) dX8_layGame_29 hn8 (congrArg Prod.fst hk8) rfl rfl rfl (by decide) (by decide) (Nat.le_of_ble_eq_true rfl) (by decide) (by decide) (fun r h2 hq => ?_)
    obtain ⟨rfl, rfl⟩ := hq
    try simp only [Option.toList, List.nil_append]
    refine z_aload_n (i := 1) dX8_layGame_32 rfl rfl ?_
    refine z_iload_n (i := 2) dX8_layGame_33 rfl rfl ?_
    refine z_putI zf8_172 dX8_layGame_34 (fun h => by cases h) hga hgk ?_
    refine z_aload_n (i := 1) dX8_layGame_37 rfl rfl ?_
    refine z_iconst (v := 1) dX8_layGame_38 (by decide) ?_
    refine z_putI zf8_107 dX8_layGame_39 (fun h => by cases h) hga hgk ?_
    refine z_vret dX8_layGame_42 rfl ?_
    subst hQ0
    have hmo : mlo I P G D g = some (mlays I g (nI (168 * W + S1))) := by
      unfold mlo
      rw [mWk_of h29g hW, m1, if_neg (nIneg (show 168 * W + S1 ≤ 1000000 by omega))]
    unfold kQlk
    rw [hmo]
    have N1 := kF9_put J S1 (kcb I g)
    have D1 := kD_lay hG (kD_9 hG hKD N1) hg hW h29g hS1 (by rw [hst0]; decide) (by rw [hst0]; decide)
    exact ⟨rfl, _, rfl, N1.g.tr ((kFg_u hg28).tr (kFg_u hg28)), ⟨D1, kOk_lay hok hG60 hg hW h29g hS1 q1, kBw_cong (kBw_lay hB (hi g hg) hg mg hW hS1) (by rw [zu_ne _ _ _ (by omega), zu_ne _ _ _ (by omega)]) (by rw [zu_ne _ _ _ (by omega), zu_ne _ _ _ (by omega)])⟩, mF2_lays I g _⟩
  · skip
    have m1 := kRes_n hr1 c_1
    refine z_aload_n (i := 0) dX8_layGame_12 rfl rfl ?_
    refine z_aload_n (i := 1) dX8_layGame_13 rfl rfl ?_
    refine z_callV (st := []) (mc2 := 0) (ms2 := 0) zi8_224 zv_yX8_layInPlaceOfAnother (c8_layInPlaceOfAnother n K J L R P G pa ga ru sp hG I D C W g hD hW hDW hs hg h29g hst0) dX8_layGame_14 hn0 (congrArg Prod.fst hk0) rfl rfl rfl (by decide) (by decide) (Nat.le_of_ble_eq_true rfl) (by decide) (by decide) (fun r h2 hq => ?_)
    obtain ⟨rfl, M, rfl, hF2, hs2, hm2⟩ := hq
    try simp only [Option.toList, List.nil_append]
    refine z_goto 42 dX8_layGame_17 (by decide) ?_
    refine z_vret dX8_layGame_42 rfl ?_
    subst hQ0
    have hmo : mlo I P G D g = mlk I P G D g 0 G := by
      unfold mlo
      rw [mWk_of h29g hW, m1, if_pos (show (-1 : Int32) < 0 by decide)]
    unfold kQlk
    rw [hmo]
    exact ⟨rfl, M, rfl, hF2, hs2, hm2⟩
