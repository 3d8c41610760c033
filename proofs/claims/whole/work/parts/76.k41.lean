theorem mlayG_1 (P G D : Nat) (w r : Int32) (x : (Nat → Nat → Int32) × Int32) (j : Nat) : (mlayG P G D w r x (j + 1)).1 = if (mlayG P G D w r x j).1 31 j = 0 ∧ (mlayG P G D w r x j).1 29 j = w ∧ (mlayG P G D w r x j).1 28 j = r then (mlo (mlayG P G D w r x j).1 P G D j).getD (mlayG P G D w r x j).1 else (mlayG P G D w r x j).1 := by
  rw [mlayG_e]
  by_cases h : (mlayG P G D w r x j).1 31 j = 0 ∧ (mlayG P G D w r x j).1 29 j = w ∧ (mlayG P G D w r x j).1 28 j = r
  · rw [if_pos h, if_pos h]
    cases mlo (mlayG P G D w r x j).1 P G D j <;> rfl
  · rw [if_neg h, if_neg h]
theorem k9i : ∀ i, i ≤ 10 → (9 - nI i < 0 ↔ i = 10) ∧ 9 - nI i + Int32.ofInt (-1) = 9 - nI (i + 1) := by decide +kernel
theorem kweek {I : Nat → Nat → Int32} {w : Int32} {D : Nat} (h34 : I 0 34 = nI D) (hD : D ≤ 357) : (if w < 0 then (0 : Int32) else if 51 ≤ w then 0 else if (w + 1) * 7 ≤ nI D then 0 else 1) = (if mgone I w = 0 then 1 else 0) ∧ (mgone I w = 0 → ∃ W, W ≤ 50 ∧ w = nI W ∧ D ≤ 7 * W + 6) := by
  unfold mgone
  rw [h34]
  rcases pk_ix w (n := 51) (by omega) with h1 | h1 | ⟨W, hW, e⟩
  · rw [if_pos h1, if_pos h1]
    exact ⟨by decide, fun q => absurd q (by decide)⟩
  · have h50 : 50 < w := by
      rw [Int32.lt_iff_toInt_lt]
      have := Int32.le_iff_toInt_le.mp h1
      rw [nI_toInt (by omega)] at this
      show (50 : Int) < w.toInt
      omega
    have h0 : ¬ w < 0 := by
      rw [Int32.lt_iff_toInt_lt] at h50 ⊢
      have h50 : (50 : Int) < w.toInt := h50
      show ¬ w.toInt < (0 : Int)
      omega
    rw [if_neg h0, if_neg h0, if_pos h50, if_pos (show (51 : Int32) ≤ w from h1)]
    exact ⟨by decide, fun q => absurd q (by decide)⟩
  · subst e
    rw [if_neg (show ¬ nI W < 0 from nIneg (by omega)), if_neg (show ¬ nI W < 0 from nIneg (by omega)), if_neg (show ¬ (51 : Int32) ≤ nI W from fun q => by have := (zle (a := 51) (b := W) (by omega) (by omega)).mp q; omega), if_neg (show ¬ (50 : Int32) < nI W from fun q => by have := (zlt (a := 50) (b := W) (by omega) (by omega)).mp q; omega)]
    have e1 : (nI W + 1) * 7 = nI ((W + 1) * 7) := by rw [zl1, nI_add, zl7, pk_mul]
    have e2 : 7 * (nI W + 1) = nI (7 * (W + 1)) := by rw [zl1, nI_add, zl7, pk_mul]
    rw [e1, e2]
    by_cases h : D < 7 * (W + 1)
    · rw [if_neg (fun q => by have := (zle (by omega) (by omega)).mp q; omega), if_pos ((zlt (by omega) (by omega)).mpr h)]
      exact ⟨by decide, fun _ => ⟨W, by omega, rfl, by omega⟩⟩
    · rw [if_pos ((zle (by omega) (by omega)).mpr (by omega)), if_neg (fun q => h ((zlt (by omega) (by omega)).mp q))]
      exact ⟨by decide, fun q => absurd q (by decide)⟩
abbrev x8_lay : ZX := (RX8, cX8_lay, 5, (some .int), "lay", 6, 240, false)
set_option maxHeartbeats 4000000 in
theorem l8_layN {n : Nat} {K : Nat → Nat × Nat} {J : Nat → Nat → Int32} {L : Nat → Nat → Int64} {R : Nat → Nat → Option Nat} {Q : Option Value → ZH → Prop} {P G : Nat} {pa ga : Nat → Nat} {ru sp : Nat} (hG : kG n K R P G pa ga ru sp) {D C W i : Nat} {x : (Nat → Nat → Int32) × Int32} (hD : D ≤ 357) (hW : W ≤ 50) (hDW : D ≤ 7 * W + 6) (hend : ∀ (M : Nat → Nat → Int32) (ls : Nat → Option Value), kFg J M → kLs M (mlayG P G D (nI W) (9 - nI i) x G).1 P G D C W pa ga → ls 0 = some (.ref 0) → ls 1 = some (.int (nI W)) → ls 2 = some (.int (9 - nI i)) → Zf x8_lay 0 0 78 ls [] (n, K, M, L, R) Q) : ∀ (m j : Nat) (M : Nat → Nat → Int32), G - j < m → j ≤ G → kFg J M → kLs M (mlayG P G D (nI W) (9 - nI i) x j).1 P G D C W pa ga → ∀ ls : Nat → Option Value, ls 0 = some (.ref 0) → ls 1 = some (.int (nI W)) → ls 2 = some (.int (9 - nI i)) → ls 3 = some (.int (nI j)) → Zf x8_lay 0 0 24 ls [] (n, K, M, L, R) Q := by
  intro m
  obtain ⟨⟨hn28, hP6, hG60⟩, ⟨hk0, hk1, hk2, hk3, hk4, hk5, hk6, hk7⟩, ⟨hr0, hr1, hr2, hr3, hr4, hr5, hr6⟩, ⟨hr7, hr8, hr9, hr10, hr11, hr12⟩, hB8, ⟨hT11, hR17, hT13⟩, ⟨hU18, hU23, hrs⟩, ⟨hgm, hgi⟩, ⟨hpm, hpi⟩⟩ := id hG
  have hn0 : 0 < n := by omega
  have hn1 : 1 < n := by omega
  have hn2 : 2 < n := by omega
  have hn3 : 3 < n := by omega
  have hn4 : 4 < n := by omega
  have hn5 : 5 < n := by omega
  have hn6 : 6 < n := by omega
  have hn7 : 7 < n := by omega
  have hn8 : 8 < n := by omega
  have hk8 : K 8 = (5, 0) := hB8.2.2.2.1
  have hn11 : 11 < n := by omega
  have hk11 : K 11 = (10, 0) := hT11.2.2.1
  induction m with
  | zero => intro j M h; omega
  | succ m ih =>
  intro j M hm hjG hF hs ls hl0 hl1 hl2 hl3
  have h14 := hs.1.1.2.1
  by_cases hj : j < G
  · obtain ⟨hgr, hg28, hga, hgk⟩ := hgm j hj
    have hstep := mlayG_1 P G D (nI W) (9 - nI i) x j
    have hih := ih (j + 1)
    generalize (mlayG P G D (nI W) (9 - nI i) x (j + 1)).1 = I2 at hstep hih
    generalize (mlayG P G D (nI W) (9 - nI i) x j).1 = I1 at hs hstep
    subst hstep
    have hgj := hs.1.2.1 j hj
    have e5 : M (ga j) 5 = I1 29 j := hgj.2.1
    have e7 : M (ga j) 7 = I1 31 j := hgj.2.2.2.1
    have e4 : M (ga j) 4 = I1 28 j := hgj.1.2.2.2.2
    refine z_iload_n (i := 3) dX8_lay_24 rfl hl3 ?_
    refine z_aload_n (i := 0) dX8_lay_25 rfl hl0 ?_
    refine z_gI zf8_81.g dX8_lay_26 hn0 hk0 ?_
    rw [h14]
    refine z_icmp_ge 78 dX8_lay_29 (by decide) (fun c_1 => absurd c_1 (fun q => by have := (zle (by omega) (by omega)).mp q; omega)) (fun _ => ?_)
    refine z_aload_n (i := 0) dX8_lay_32 rfl hl0 ?_
    refine z_gR zf8_17.g dX8_lay_33 hn0 hk0 hr1 ?_
    refine z_iload_n (i := 3) dX8_lay_36 rfl hl3 ?_
    refine z_aaldQ dX8_lay_37 hn2 hk2 (zvin (by omega) (by omega)) (by rw [zcl (by omega)]; exact hgr) ?_
    refine z_astore (i := 4) dX8_lay_38 (by decide) rfl ?_
    refine z_aload (i := 4) dX8_lay_40 rfl ?_
    refine z_gI zf8_104 dX8_lay_42 hga hgk ?_
    rw [e5]
    refine z_iload_n (i := 1) dX8_lay_45 rfl hl1 ?_
    refine z_icmp_ne 72 dX8_lay_46 (by decide) (fun c_2 => ?_) (fun c_2 => ?_)
    · skip
      refine z_iinc dX8_lay_72 hl3 rfl ?_
      refine z_goto 24 dX8_lay_75 (by decide) ?_
      rw [zinc]
      rw [if_neg (fun q => c_2 q.2.1)] at hih
      exact hih M (by omega) (by omega) hF hs _ hl0 hl1 hl2 rfl
    · skip
      refine z_aload (i := 4) dX8_lay_49 rfl ?_
      refine z_gI zf8_107.g dX8_lay_51 hga hgk ?_
      rw [e7]
      refine z_if_ne 72 dX8_lay_54 (by decide) (fun c_3 => ?_) (fun c_3 => ?_)
      · skip
        refine z_iinc dX8_lay_72 hl3 rfl ?_
        refine z_goto 24 dX8_lay_75 (by decide) ?_
        rw [zinc]
        rw [if_neg (fun q => c_3 q.1)] at hih
        exact hih M (by omega) (by omega) hF hs _ hl0 hl1 hl2 rfl
      · skip
        refine z_aload (i := 4) dX8_lay_57 rfl ?_
        refine z_gI zf8_110 dX8_lay_59 hga hgk ?_
        rw [e4]
        refine z_iload_n (i := 2) dX8_lay_62 rfl hl2 ?_
        refine z_icmp_ne 72 dX8_lay_63 (by decide) (fun c_4 => ?_) (fun c_4 => ?_)
        · skip
          refine z_iinc dX8_lay_72 hl3 rfl ?_
          refine z_goto 24 dX8_lay_75 (by decide) ?_
          rw [zinc]
          rw [if_neg (fun q => c_4 q.2.2)] at hih
          exact hih M (by omega) (by omega) hF hs _ hl0 hl1 hl2 rfl
        · skip
          refine z_aload_n (i := 0) dX8_lay_66 rfl hl0 ?_
          refine z_aload (i := 4) dX8_lay_67 rfl ?_
          refine z_callV (st := []) (mc2 := 0) (ms2 := 0) zi8_113 zv_yX8_layGame (c8_layGame n K M L R P G pa ga ru sp hG I1 D C W j hD hW hDW hs hj c_2 c_3) dX8_lay_69 hn0 (congrArg Prod.fst hk0) rfl rfl rfl (by decide) (by decide) (Nat.le_of_ble_eq_true rfl) (by decide) (by decide) (fun r h2 hq => ?_)
          obtain ⟨rfl, M2, rfl, hF2, hs2, -⟩ := hq
          try simp only [Option.toList, List.nil_append]
          refine z_iinc dX8_lay_72 hl3 rfl ?_
          refine z_goto 24 dX8_lay_75 (by decide) ?_
          rw [zinc]
          rw [if_pos ⟨c_3, c_2, c_4⟩] at hih
          exact hih M2 (by omega) (by omega) (hF.tr hF2) hs2 _ hl0 hl1 hl2 rfl
  · have hje : j = G := by omega
    subst hje
    refine z_iload_n (i := 3) dX8_lay_24 rfl hl3 ?_
    refine z_aload_n (i := 0) dX8_lay_25 rfl hl0 ?_
    refine z_gI zf8_81.g dX8_lay_26 hn0 hk0 ?_
    rw [h14]
    refine z_icmp_ge 78 dX8_lay_29 (by decide) (fun _ => ?_) (fun c_1 => absurd ((zle (by omega) (by omega)).mpr (Nat.le_refl _)) c_1)
    exact hend M ls hF hs hl0 hl1 hl2
set_option maxHeartbeats 4000000 in
theorem l8_layR {n : Nat} {K : Nat → Nat × Nat} {J : Nat → Nat → Int32} {L : Nat → Nat → Int64} {R : Nat → Nat → Option Nat} {Q : Option Value → ZH → Prop} {P G : Nat} {pa ga : Nat → Nat} {ru sp : Nat} (hG : kG n K R P G pa ga ru sp) {D C W : Nat} {x : (Nat → Nat → Int32) × Int32} (hD : D ≤ 357) (hW : W ≤ 50) (hDW : D ≤ 7 * W + 6) (hQ : ∀ (M : Nat → Nat → Int32), kFg J M → kLs M (mlayR P G D (nI W) x 10).1 P G D C W pa ga → Q (some (.int (kcnt (fun g => decide (M (ga g) 5 = nI W) && decide (M (ga g) 7 = 0)) G))) (n, K, M, L, R)) : ∀ (m i : Nat) (M : Nat → Nat → Int32), 10 - i < m → i ≤ 10 → kFg J M → kLs M (mlayR P G D (nI W) x i).1 P G D C W pa ga → ∀ ls : Nat → Option Value, ls 0 = some (.ref 0) → ls 1 = some (.int (nI W)) → ls 2 = some (.int (9 - nI i)) → Zf x8_lay 0 0 18 ls [] (n, K, M, L, R) Q := by
  intro m
  obtain ⟨⟨hn28, hP6, hG60⟩, ⟨hk0, hk1, hk2, hk3, hk4, hk5, hk6, hk7⟩, ⟨hr0, hr1, hr2, hr3, hr4, hr5, hr6⟩, ⟨hr7, hr8, hr9, hr10, hr11, hr12⟩, hB8, ⟨hT11, hR17, hT13⟩, ⟨hU18, hU23, hrs⟩, ⟨hgm, hgi⟩, ⟨hpm, hpi⟩⟩ := id hG
  have hn0 : 0 < n := by omega
  have hn1 : 1 < n := by omega
  have hn2 : 2 < n := by omega
  have hn3 : 3 < n := by omega
  have hn4 : 4 < n := by omega
  have hn5 : 5 < n := by omega
  have hn6 : 6 < n := by omega
  have hn7 : 7 < n := by omega
  have hn8 : 8 < n := by omega
  have hk8 : K 8 = (5, 0) := hB8.2.2.2.1
  have hn11 : 11 < n := by omega
  have hk11 : K 11 = (10, 0) := hT11.2.2.1
  induction m with
  | zero => intro i M h; omega
  | succ m ih =>
  intro i M hm hi10 hF hs ls hl0 hl1 hl2
  by_cases hi : i < 10
  · skip
    refine z_iload_n (i := 2) dX8_lay_18 rfl hl2 ?_
    refine z_if_lt 84 dX8_lay_19 (by decide) (fun c_1 => absurd c_1 (fun q => by have := (k9i i (by omega)).1.mp q; omega)) (fun _ => ?_)
    refine z_iconst (v := 0) dX8_lay_22 (by decide) ?_
    refine z_istore_n (i := 3) dX8_lay_23 rfl (by decide) rfl ?_
    refine l8_layN (J := J) (i := i) (x := mlayR P G D (nI W) x i) hG hD hW hDW (fun M2 ls2 hF2 hs2 q0 q1 q2 => ?_) (G + 1) 0 M (by omega) (by omega) hF hs _ hl0 hl1 hl2 rfl
    refine z_iinc dX8_lay_78 q2 rfl ?_
    refine z_goto 18 dX8_lay_81 (by decide) ?_
    rw [(k9i i (by omega)).2]
    exact ih (i + 1) M2 (by omega) (by omega) hF2 hs2 _ q0 q1 rfl
  · have hie : i = 10 := by omega
    subst hie
    have h14 := hs.1.1.2.1
    refine z_iload_n (i := 2) dX8_lay_18 rfl hl2 ?_
    refine z_if_lt 84 dX8_lay_19 (by decide) (fun _ => ?_) (fun c_1 => absurd ((k9i 10 (by omega)).1.mpr rfl) c_1)
    refine z_aload_n (i := 0) dX8_lay_84 rfl hl0 ?_
    refine z_iload_n (i := 1) dX8_lay_85 rfl hl1 ?_
    refine z_callV (st := []) (mc2 := 0) (ms2 := 0) zi8_117 zv_yX8_newGamesOf (c8_newGamesOf n K M L R P G pa ga ru sp hG _ h14) dX8_lay_86 hn0 (congrArg Prod.fst hk0) rfl rfl rfl (by decide) (by decide) (Nat.le_of_ble_eq_true rfl) (by decide) (by decide) (fun r h2 hq => ?_)
    obtain ⟨rfl, rfl⟩ := hq
    refine z_iret dX8_lay_89 rfl ?_
    exact hQ M hF hs
abbrev kQlay (n : Nat) (K : Nat → Nat × Nat) (J : Nat → Nat → Int32) (L : Nat → Nat → Int64) (R : Nat → Nat → Option Nat) (P G D C : Nat) (pa ga : Nat → Nat) (I : Nat → Nat → Int32) (w : Int32) : Option Value → ZH → Prop := fun r h => r = some (.int (if mgone I w = 0 then (mlayR P G D w (I, 0) 10).2 else -1)) ∧ ∃ M, h = (n, K, M, L, R) ∧ kFg J M ∧ kD M (if mgone I w = 0 then (mlayR P G D w (I, 0) 10).1 else I) P G D pa ga ∧ kOk (if mgone I w = 0 then (mlayR P G D w (I, 0) 10).1 else I) P G C ∧ mF2 I (if mgone I w = 0 then (mlayR P G D w (I, 0) 10).1 else I)
set_option maxHeartbeats 4000000 in
theorem c8_lay (n : Nat) (K : Nat → Nat × Nat) (J : Nat → Nat → Int32) (L : Nat → Nat → Int64) (R : Nat → Nat → Option Nat) (P G : Nat) (pa ga : Nat → Nat) (ru sp : Nat) (hG : kG n K R P G pa ga ru sp) (I : Nat → Nat → Int32) (D C : Nat) (w : Int32) (hD : D ≤ 357) (h34 : I 0 34 = nI D) (hKD : kD J I P G D pa ga) (hok : kOk I P G C) : Zm yX8_lay cX8_lay 5 (some .int) 6 240 0 0 [.ref 0, .int w] (n, K, J, L, R) (kQlay n K J L R P G D C pa ga I w) := by
  refine Zm_of (lg := false) (by decide) (fun _ => by simp [Value.category]) (fun _ => Nat.le_of_ble_eq_true rfl) ?_
  show Zf x8_lay 0 0 0 (zargs [.ref 0, .int w]) [] (n, K, J, L, R) _
  generalize hQ0 : (kQlay n K J L R P G D C pa ga I w : Option Value → ZH → Prop) = Q0
  obtain ⟨⟨hn28, hP6, hG60⟩, ⟨hk0, hk1, hk2, hk3, hk4, hk5, hk6, hk7⟩, ⟨hr0, hr1, hr2, hr3, hr4, hr5, hr6⟩, ⟨hr7, hr8, hr9, hr10, hr11, hr12⟩, hB8, ⟨hT11, hR17, hT13⟩, ⟨hU18, hU23, hrs⟩, ⟨hgm, hgi⟩, ⟨hpm, hpi⟩⟩ := id hG
  have hn0 : 0 < n := by omega
  have hn1 : 1 < n := by omega
  have hn2 : 2 < n := by omega
  have hn3 : 3 < n := by omega
  have hn4 : 4 < n := by omega
  have hn5 : 5 < n := by omega
  have hn6 : 6 < n := by omega
  have hn7 : 7 < n := by omega
  have hn8 : 8 < n := by omega
  have hk8 : K 8 = (5, 0) := hB8.2.2.2.1
  have hn11 : 11 < n := by omega
  have hk11 : K 11 = (10, 0) := hT11.2.2.1
  obtain ⟨⟨h13, h14, h15⟩, hdg, hdp, hdt, hdc⟩ := id hKD
  obtain ⟨kw1, kw2⟩ := kweek (w := w) h34 hD
  by_cases hgn : mgone I w = 0
  · obtain ⟨W, hW, rfl, hDW⟩ := kw2 hgn
    rw [if_pos hgn] at kw1
    refine z_aload_n (i := 0) dX8_lay_0 rfl rfl ?_
    refine z_iload_n (i := 1) dX8_lay_1 rfl rfl ?_
    refine z_callV (st := []) (mc2 := 0) (ms2 := 0) zi8_94 zv_yX8_isWeekToCome (c8_isWeekToCome n K J L R 0 hn0 hk0 _) dX8_lay_2 hn0 (congrArg Prod.fst hk0) rfl rfl rfl (by decide) (by decide) (Nat.le_of_ble_eq_true rfl) (by decide) (by decide) (fun r h2 hq => ?_)
    obtain ⟨rfl, rfl⟩ := hq
    rw [h15, kw1]
    refine z_if_ne 10 dX8_lay_5 (by decide) (fun _ => ?_) (fun c_1 => absurd c_1 (by decide))
    refine z_aload_n (i := 0) dX8_lay_10 rfl rfl ?_
    refine z_iload_n (i := 1) dX8_lay_11 rfl rfl ?_
    refine z_callV (st := []) (mc2 := 0) (ms2 := 0) zi8_101 zv_yX8_showWeek (c8_showWeek n K J L R P G pa ga ru sp hG I W hW h14 hdg hok.1.1) dX8_lay_12 hn0 (congrArg Prod.fst hk0) rfl rfl rfl (by decide) (by decide) (Nat.le_of_ble_eq_true rfl) (by decide) (by decide) (fun r h2 hq => ?_)
    obtain ⟨rfl, M1, rfl, hF9, hB9⟩ := hq
    try simp only [Option.toList, List.nil_append]
    refine z_bipush (v := 9) dX8_lay_15 (by decide) ?_
    refine z_istore_n (i := 2) dX8_lay_17 rfl (by decide) rfl ?_
    refine l8_layR (J := J) (x := (I, 0)) (C := C) hG hD hW hDW (fun M hF hs => ?_) 11 0 M1 (by omega) (by omega) hF9.g ⟨kD_9 hG hKD hF9, hok, hB9⟩ _ rfl rfl rfl
    subst hQ0
    have hl := lay_cnt (P := P) (G := G) (D := D) (w := nI W) (I := I) (fun g hg => (hok.1.1 g hg).2.2.1)
    unfold kQlay
    rw [if_pos hgn, if_pos hgn]
    have hFm := (layR_cnt (P := P) (G := G) (D := D) (w := nI W) (rk := fun g => (I 28 g).toNatClampNeg) (I, 0) (fun g hg => by
      obtain ⟨x, hx, e⟩ := (hok.1.1 g hg).2.2.1
      dsimp only
      rw [e, zcl (by omega)]
      exact ⟨hx, rfl⟩) rfl 10 (Nat.le_refl _)).1
    refine ⟨?_, M, rfl, hF, hs.1, hs.2.1, hFm⟩
    rw [hl]
    refine congrArg (fun v => some (Value.int v)) (kcnt_cong G (fun g hg => ?_))
    rw [(hs.1.2.1 g hg).2.1, (hs.1.2.1 g hg).2.2.2.1]
  · rw [if_neg hgn] at kw1
    refine z_aload_n (i := 0) dX8_lay_0 rfl rfl ?_
    refine z_iload_n (i := 1) dX8_lay_1 rfl rfl ?_
    refine z_callV (st := []) (mc2 := 0) (ms2 := 0) zi8_94 zv_yX8_isWeekToCome (c8_isWeekToCome n K J L R 0 hn0 hk0 _) dX8_lay_2 hn0 (congrArg Prod.fst hk0) rfl rfl rfl (by decide) (by decide) (Nat.le_of_ble_eq_true rfl) (by decide) (by decide) (fun r h2 hq => ?_)
    obtain ⟨rfl, rfl⟩ := hq
    rw [h15, kw1]
    refine z_if_ne 10 dX8_lay_5 (by decide) (fun c_1 => absurd c_1 (by decide)) (fun _ => ?_)
    refine z_iconst (v := (-1)) dX8_lay_8 (by decide) ?_
    refine z_iret dX8_lay_9 rfl ?_
    subst hQ0
    unfold kQlay
    rw [if_neg hgn, if_neg hgn]
    exact ⟨rfl, J, rfl, kFg.rf J, hKD, hok, mF2.rf I⟩
