abbrev x8_look : ZX := (RX8, cX8_look, 4, (some .int), "look", 3, 120, false)
set_option maxHeartbeats 4000000 in
theorem c8_look0 (n : Nat) (K : Nat → Nat × Nat) (J : Nat → Nat → Int32) (L : Nat → Nat → Int64) (R : Nat → Nat → Option Nat) (P G : Nat) (pa ga : Nat → Nat) (ru sp : Nat) (hG : kG n K R P G pa ga ru sp) (I : Nat → Nat → Int32) (D : Nat) (hD : kD J I P G D pa ga) (hv : kIv I P G) (j : Nat) (hj : j < G) : Zm yX8_look cX8_look 4 (some .int) 3 120 0 0 [.ref 0, .int (nI j), .int 0] (n, K, J, L, R) (kQ (some (.int (mlook I j 0))) n K J L R) := by
  refine Zm_of (lg := false) (by decide) (fun _ => by simp [Value.category]) (fun _ => Nat.le_of_ble_eq_true rfl) ?_
  show Zf x8_look 0 0 0 (zargs [.ref 0, .int (nI j), .int 0]) [] (n, K, J, L, R) _
  obtain ⟨⟨hn28, hP6, hG60⟩, ⟨hk0, hk1, hk2, hk3, hk4, hk5, hk6, hk7⟩, ⟨hr0, hr1, hr2, hr3, hr4, hr5, hr6⟩, ⟨hr7, hr8, hr9, hr10, hr11, hr12⟩, hB8, ⟨hT11, hR17, hT13⟩, ⟨hU18, hU23, hrs⟩, ⟨hgm, hgi⟩, ⟨hpm, hpi⟩⟩ := id hG
  have hn0 : 0 < n := by omega
  have hn1 : 1 < n := by omega
  have hn2 : 2 < n := by omega
  have hn3 : 3 < n := by omega
  have hn4 : 4 < n := by omega
  have hn5 : 5 < n := by omega
  have hn6 : 6 < n := by omega
  have hn7 : 7 < n := by omega
  have hn8 : 8 < n := by omega
  have hk8 : K 8 = (5, 0) := hB8.2.2.2.1
  have hn11 : 11 < n := by omega
  have hk11 : K 11 = (10, 0) := hT11.2.2.1
  obtain ⟨⟨h13, h14, h15⟩, hdg, hdp, hdt, hdc⟩ := id hD
  obtain ⟨hgr, hg28, hga, hgk⟩ := hgm j hj
  have hm := hdg j hj
  obtain ⟨-, -, -, -, w', hw', h29, hs⟩ := hv.1 j hj
  refine z_iload_n (i := 1) dX8_look_0 rfl rfl ?_
  refine z_if_lt 21 dX8_look_1 (by decide) (fun c_1 => absurd c_1 (nIneg (by omega))) (fun _ => ?_)
  refine z_iload_n (i := 1) dX8_look_4 rfl rfl ?_
  refine z_aload_n (i := 0) dX8_look_5 rfl rfl ?_
  refine z_gI zf8_81.g dX8_look_6 hn0 hk0 ?_
  rw [h14]
  refine z_icmp_ge 21 dX8_look_9 (by decide) (fun c_2 => absurd c_2 (fun q => by have := (zle (by omega) (by omega)).mp q; omega)) (fun _ => ?_)
  refine z_iload_n (i := 2) dX8_look_12 rfl rfl ?_
  refine z_if_lt 21 dX8_look_13 (by decide) (fun c_3 => absurd c_3 (by decide)) (fun _ => ?_)
  refine z_iload_n (i := 2) dX8_look_16 rfl rfl ?_
  refine z_iconst (v := 4) dX8_look_17 (by decide) ?_
  refine z_icmp_le 31 dX8_look_18 (by decide) (fun _ => ?_) (fun c_4 => absurd (by decide) c_4)
  refine z_aload_n (i := 0) dX8_look_31 rfl rfl ?_
  refine z_gR zf8_17.g dX8_look_32 hn0 hk0 hr1 ?_
  refine z_iload_n (i := 1) dX8_look_35 rfl rfl ?_
  refine z_aaldQ dX8_look_36 hn2 hk2 (zvin (by omega) (by omega)) (by rw [zcl (by omega)]; exact hgr) ?_
  refine z_astore_n (i := 3) dX8_look_37 rfl (by decide) rfl ?_
  refine z_iload_n (i := 2) dX8_look_38 rfl rfl ?_
  refine z_tableIn (off := 29) 68 dX8_look_39 (by decide) (by decide) (by decide) (by decide) ?_
  refine z_aload_n (i := 3) dX8_look_68 rfl rfl ?_
  refine z_gI zf8_107.g dX8_look_69 hga hgk ?_
  refine z_iret dX8_look_72 rfl ?_
  rw [hm.2.2.2.1]
  exact ⟨rfl, rfl⟩
set_option maxHeartbeats 4000000 in
theorem c8_look1 (n : Nat) (K : Nat → Nat × Nat) (J : Nat → Nat → Int32) (L : Nat → Nat → Int64) (R : Nat → Nat → Option Nat) (P G : Nat) (pa ga : Nat → Nat) (ru sp : Nat) (hG : kG n K R P G pa ga ru sp) (I : Nat → Nat → Int32) (D : Nat) (hD : kD J I P G D pa ga) (hv : kIv I P G) (j : Nat) (hj : j < G) : Zm yX8_look cX8_look 4 (some .int) 3 120 0 0 [.ref 0, .int (nI j), .int 1] (n, K, J, L, R) (kQ (some (.int (mlook I j 1))) n K J L R) := by
  refine Zm_of (lg := false) (by decide) (fun _ => by simp [Value.category]) (fun _ => Nat.le_of_ble_eq_true rfl) ?_
  show Zf x8_look 0 0 0 (zargs [.ref 0, .int (nI j), .int 1]) [] (n, K, J, L, R) _
  obtain ⟨⟨hn28, hP6, hG60⟩, ⟨hk0, hk1, hk2, hk3, hk4, hk5, hk6, hk7⟩, ⟨hr0, hr1, hr2, hr3, hr4, hr5, hr6⟩, ⟨hr7, hr8, hr9, hr10, hr11, hr12⟩, hB8, ⟨hT11, hR17, hT13⟩, ⟨hU18, hU23, hrs⟩, ⟨hgm, hgi⟩, ⟨hpm, hpi⟩⟩ := id hG
  have hn0 : 0 < n := by omega
  have hn1 : 1 < n := by omega
  have hn2 : 2 < n := by omega
  have hn3 : 3 < n := by omega
  have hn4 : 4 < n := by omega
  have hn5 : 5 < n := by omega
  have hn6 : 6 < n := by omega
  have hn7 : 7 < n := by omega
  have hn8 : 8 < n := by omega
  have hk8 : K 8 = (5, 0) := hB8.2.2.2.1
  have hn11 : 11 < n := by omega
  have hk11 : K 11 = (10, 0) := hT11.2.2.1
  obtain ⟨⟨h13, h14, h15⟩, hdg, hdp, hdt, hdc⟩ := id hD
  obtain ⟨hgr, hg28, hga, hgk⟩ := hgm j hj
  have hm := hdg j hj
  obtain ⟨-, -, -, -, w', hw', h29, hs⟩ := hv.1 j hj
  rcases hs with ⟨-, -, h32⟩ | ⟨-, S, h32, hS, -⟩
  · have h8 := kslot_none hm h32
    refine z_iload_n (i := 1) dX8_look_0 rfl rfl ?_
    refine z_if_lt 21 dX8_look_1 (by decide) (fun c_1 => absurd c_1 (nIneg (by omega))) (fun _ => ?_)
    refine z_iload_n (i := 1) dX8_look_4 rfl rfl ?_
    refine z_aload_n (i := 0) dX8_look_5 rfl rfl ?_
    refine z_gI zf8_81.g dX8_look_6 hn0 hk0 ?_
    rw [h14]
    refine z_icmp_ge 21 dX8_look_9 (by decide) (fun c_2 => absurd c_2 (fun q => by have := (zle (by omega) (by omega)).mp q; omega)) (fun _ => ?_)
    refine z_iload_n (i := 2) dX8_look_12 rfl rfl ?_
    refine z_if_lt 21 dX8_look_13 (by decide) (fun c_3 => absurd c_3 (by decide)) (fun _ => ?_)
    refine z_iload_n (i := 2) dX8_look_16 rfl rfl ?_
    refine z_iconst (v := 4) dX8_look_17 (by decide) ?_
    refine z_icmp_le 31 dX8_look_18 (by decide) (fun _ => ?_) (fun c_4 => absurd (by decide) c_4)
    refine z_aload_n (i := 0) dX8_look_31 rfl rfl ?_
    refine z_gR zf8_17.g dX8_look_32 hn0 hk0 hr1 ?_
    refine z_iload_n (i := 1) dX8_look_35 rfl rfl ?_
    refine z_aaldQ dX8_look_36 hn2 hk2 (zvin (by omega) (by omega)) (by rw [zcl (by omega)]; exact hgr) ?_
    refine z_astore_n (i := 3) dX8_look_37 rfl (by decide) rfl ?_
    refine z_iload_n (i := 2) dX8_look_38 rfl rfl ?_
    refine z_tableIn (off := 34) 73 dX8_look_39 (by decide) (by decide) (by decide) (by decide) ?_
    refine z_aload_n (i := 3) dX8_look_73 rfl rfl ?_
    refine z_gI zf8_172.g dX8_look_74 hga hgk ?_
    rw [h8]
    refine z_iconst (v := (-1)) dX8_look_77 (by decide) ?_
    refine z_icmp_ne 85 dX8_look_78 (by decide) (fun c_5 => absurd c_5 (fun q => q rfl)) (fun _ => ?_)
    refine z_iconst (v := (-1)) dX8_look_81 (by decide) ?_
    refine z_goto 100 dX8_look_82 (by decide) ?_
    refine z_iret dX8_look_100 rfl ?_
    refine ⟨?_, rfl⟩
    unfold mlook
    rw [if_neg (show ¬ (1 : Nat) = 0 by decide), if_neg (show ¬ (1 : Nat) = 4 by decide), h32, if_pos (by decide)]
  · have h8 := kslot_there hm hw' h29 hS h32
    refine z_iload_n (i := 1) dX8_look_0 rfl rfl ?_
    refine z_if_lt 21 dX8_look_1 (by decide) (fun c_1 => absurd c_1 (nIneg (by omega))) (fun _ => ?_)
    refine z_iload_n (i := 1) dX8_look_4 rfl rfl ?_
    refine z_aload_n (i := 0) dX8_look_5 rfl rfl ?_
    refine z_gI zf8_81.g dX8_look_6 hn0 hk0 ?_
    rw [h14]
    refine z_icmp_ge 21 dX8_look_9 (by decide) (fun c_2 => absurd c_2 (fun q => by have := (zle (by omega) (by omega)).mp q; omega)) (fun _ => ?_)
    refine z_iload_n (i := 2) dX8_look_12 rfl rfl ?_
    refine z_if_lt 21 dX8_look_13 (by decide) (fun c_3 => absurd c_3 (by decide)) (fun _ => ?_)
    refine z_iload_n (i := 2) dX8_look_16 rfl rfl ?_
    refine z_iconst (v := 4) dX8_look_17 (by decide) ?_
    refine z_icmp_le 31 dX8_look_18 (by decide) (fun _ => ?_) (fun c_4 => absurd (by decide) c_4)
    refine z_aload_n (i := 0) dX8_look_31 rfl rfl ?_
    refine z_gR zf8_17.g dX8_look_32 hn0 hk0 hr1 ?_
    refine z_iload_n (i := 1) dX8_look_35 rfl rfl ?_
    refine z_aaldQ dX8_look_36 hn2 hk2 (zvin (by omega) (by omega)) (by rw [zcl (by omega)]; exact hgr) ?_
    refine z_astore_n (i := 3) dX8_look_37 rfl (by decide) rfl ?_
    refine z_iload_n (i := 2) dX8_look_38 rfl rfl ?_
    refine z_tableIn (off := 34) 73 dX8_look_39 (by decide) (by decide) (by decide) (by decide) ?_
    refine z_aload_n (i := 3) dX8_look_73 rfl rfl ?_
    refine z_gI zf8_172.g dX8_look_74 hga hgk ?_
    rw [h8]
    refine z_iconst (v := (-1)) dX8_look_77 (by decide) ?_
    refine z_icmp_ne 85 dX8_look_78 (by decide) (fun _ => ?_) (fun c_5 => absurd c_5 (nIne1 (show S ≤ 1000000 by omega)))
    refine z_aload_n (i := 3) dX8_look_85 rfl rfl ?_
    refine z_gI zf8_104 dX8_look_86 hga hgk ?_
    rw [hm.2.1, h29]
    refine z_bipush (v := 7) dX8_look_89 (by decide) ?_
    skip
    refine z_imul dX8_look_91 ?_
    refine z_aload_n (i := 3) dX8_look_92 rfl rfl ?_
    refine z_gI zf8_172.g dX8_look_93 hga hgk ?_
    rw [h8]
    refine z_bipush (v := 24) dX8_look_96 (by decide) ?_
    refine z_idiv dX8_look_98 (by decide) ?_
    refine z_iadd dX8_look_99 ?_
    refine z_iret dX8_look_100 rfl ?_
    refine ⟨?_, rfl⟩
    unfold mlook
    rw [if_neg (show ¬ (1 : Nat) = 0 by decide), if_neg (show ¬ (1 : Nat) = 4 by decide), h32, if_neg (nIneg (by omega))]
    rw [if_pos (show (1 : Nat) = 1 from rfl), zl7, zl24, zdiv (by omega) (by omega) (by omega), zdiv (by omega) (by omega) (by omega), pk_mul, nI_add, show (168 * w' + S) / 24 = w' * 7 + S / 24 by omega]
set_option maxHeartbeats 4000000 in
theorem c8_look2 (n : Nat) (K : Nat → Nat × Nat) (J : Nat → Nat → Int32) (L : Nat → Nat → Int64) (R : Nat → Nat → Option Nat) (P G : Nat) (pa ga : Nat → Nat) (ru sp : Nat) (hG : kG n K R P G pa ga ru sp) (I : Nat → Nat → Int32) (D : Nat) (hD : kD J I P G D pa ga) (hv : kIv I P G) (j : Nat) (hj : j < G) : Zm yX8_look cX8_look 4 (some .int) 3 120 0 0 [.ref 0, .int (nI j), .int 2] (n, K, J, L, R) (kQ (some (.int (mlook I j 2))) n K J L R) := by
  refine Zm_of (lg := false) (by decide) (fun _ => by simp [Value.category]) (fun _ => Nat.le_of_ble_eq_true rfl) ?_
  show Zf x8_look 0 0 0 (zargs [.ref 0, .int (nI j), .int 2]) [] (n, K, J, L, R) _
  obtain ⟨⟨hn28, hP6, hG60⟩, ⟨hk0, hk1, hk2, hk3, hk4, hk5, hk6, hk7⟩, ⟨hr0, hr1, hr2, hr3, hr4, hr5, hr6⟩, ⟨hr7, hr8, hr9, hr10, hr11, hr12⟩, hB8, ⟨hT11, hR17, hT13⟩, ⟨hU18, hU23, hrs⟩, ⟨hgm, hgi⟩, ⟨hpm, hpi⟩⟩ := id hG
  have hn0 : 0 < n := by omega
  have hn1 : 1 < n := by omega
  have hn2 : 2 < n := by omega
  have hn3 : 3 < n := by omega
  have hn4 : 4 < n := by omega
  have hn5 : 5 < n := by omega
  have hn6 : 6 < n := by omega
  have hn7 : 7 < n := by omega
  have hn8 : 8 < n := by omega
  have hk8 : K 8 = (5, 0) := hB8.2.2.2.1
  have hn11 : 11 < n := by omega
  have hk11 : K 11 = (10, 0) := hT11.2.2.1
  obtain ⟨⟨h13, h14, h15⟩, hdg, hdp, hdt, hdc⟩ := id hD
  obtain ⟨hgr, hg28, hga, hgk⟩ := hgm j hj
  have hm := hdg j hj
  obtain ⟨-, -, -, -, w', hw', h29, hs⟩ := hv.1 j hj
  rcases hs with ⟨-, -, h32⟩ | ⟨-, S, h32, hS, -⟩
  · have h8 := kslot_none hm h32
    refine z_iload_n (i := 1) dX8_look_0 rfl rfl ?_
    refine z_if_lt 21 dX8_look_1 (by decide) (fun c_1 => absurd c_1 (nIneg (by omega))) (fun _ => ?_)
    refine z_iload_n (i := 1) dX8_look_4 rfl rfl ?_
    refine z_aload_n (i := 0) dX8_look_5 rfl rfl ?_
    refine z_gI zf8_81.g dX8_look_6 hn0 hk0 ?_
    rw [h14]
    refine z_icmp_ge 21 dX8_look_9 (by decide) (fun c_2 => absurd c_2 (fun q => by have := (zle (by omega) (by omega)).mp q; omega)) (fun _ => ?_)
    refine z_iload_n (i := 2) dX8_look_12 rfl rfl ?_
    refine z_if_lt 21 dX8_look_13 (by decide) (fun c_3 => absurd c_3 (by decide)) (fun _ => ?_)
    refine z_iload_n (i := 2) dX8_look_16 rfl rfl ?_
    refine z_iconst (v := 4) dX8_look_17 (by decide) ?_
    refine z_icmp_le 31 dX8_look_18 (by decide) (fun _ => ?_) (fun c_4 => absurd (by decide) c_4)
    refine z_aload_n (i := 0) dX8_look_31 rfl rfl ?_
    refine z_gR zf8_17.g dX8_look_32 hn0 hk0 hr1 ?_
    refine z_iload_n (i := 1) dX8_look_35 rfl rfl ?_
    refine z_aaldQ dX8_look_36 hn2 hk2 (zvin (by omega) (by omega)) (by rw [zcl (by omega)]; exact hgr) ?_
    refine z_astore_n (i := 3) dX8_look_37 rfl (by decide) rfl ?_
    refine z_iload_n (i := 2) dX8_look_38 rfl rfl ?_
    refine z_tableIn (off := 62) 101 dX8_look_39 (by decide) (by decide) (by decide) (by decide) ?_
    refine z_aload_n (i := 3) dX8_look_101 rfl rfl ?_
    refine z_gI zf8_172.g dX8_look_102 hga hgk ?_
    rw [h8]
    refine z_iconst (v := (-1)) dX8_look_105 (by decide) ?_
    refine z_icmp_ne 113 dX8_look_106 (by decide) (fun c_5 => absurd c_5 (fun q => q rfl)) (fun _ => ?_)
    refine z_iconst (v := (-1)) dX8_look_109 (by decide) ?_
    refine z_goto 123 dX8_look_110 (by decide) ?_
    refine z_iret dX8_look_123 rfl ?_
    refine ⟨?_, rfl⟩
    unfold mlook
    rw [if_neg (show ¬ (2 : Nat) = 0 by decide), if_neg (show ¬ (2 : Nat) = 4 by decide), h32, if_pos (by decide)]
  · have h8 := kslot_there hm hw' h29 hS h32
    refine z_iload_n (i := 1) dX8_look_0 rfl rfl ?_
    refine z_if_lt 21 dX8_look_1 (by decide) (fun c_1 => absurd c_1 (nIneg (by omega))) (fun _ => ?_)
    refine z_iload_n (i := 1) dX8_look_4 rfl rfl ?_
    refine z_aload_n (i := 0) dX8_look_5 rfl rfl ?_
    refine z_gI zf8_81.g dX8_look_6 hn0 hk0 ?_
    rw [h14]
    refine z_icmp_ge 21 dX8_look_9 (by decide) (fun c_2 => absurd c_2 (fun q => by have := (zle (by omega) (by omega)).mp q; omega)) (fun _ => ?_)
    refine z_iload_n (i := 2) dX8_look_12 rfl rfl ?_
    refine z_if_lt 21 dX8_look_13 (by decide) (fun c_3 => absurd c_3 (by decide)) (fun _ => ?_)
    refine z_iload_n (i := 2) dX8_look_16 rfl rfl ?_
    refine z_iconst (v := 4) dX8_look_17 (by decide) ?_
    refine z_icmp_le 31 dX8_look_18 (by decide) (fun _ => ?_) (fun c_4 => absurd (by decide) c_4)
    refine z_aload_n (i := 0) dX8_look_31 rfl rfl ?_
    refine z_gR zf8_17.g dX8_look_32 hn0 hk0 hr1 ?_
    refine z_iload_n (i := 1) dX8_look_35 rfl rfl ?_
    refine z_aaldQ dX8_look_36 hn2 hk2 (zvin (by omega) (by omega)) (by rw [zcl (by omega)]; exact hgr) ?_
    refine z_astore_n (i := 3) dX8_look_37 rfl (by decide) rfl ?_
    refine z_iload_n (i := 2) dX8_look_38 rfl rfl ?_
    refine z_tableIn (off := 62) 101 dX8_look_39 (by decide) (by decide) (by decide) (by decide) ?_
    refine z_aload_n (i := 3) dX8_look_101 rfl rfl ?_
    refine z_gI zf8_172.g dX8_look_102 hga hgk ?_
    rw [h8]
    refine z_iconst (v := (-1)) dX8_look_105 (by decide) ?_
    refine z_icmp_ne 113 dX8_look_106 (by decide) (fun _ => ?_) (fun c_5 => absurd c_5 (nIne1 (show S ≤ 1000000 by omega)))
    refine z_aload_n (i := 3) dX8_look_113 rfl rfl ?_
    refine z_gI zf8_172.g dX8_look_114 hga hgk ?_
    rw [h8]
    refine z_bipush (v := 24) dX8_look_117 (by decide) ?_
    refine z_irem dX8_look_119 (by decide) ?_
    refine z_bipush (v := 6) dX8_look_120 (by decide) ?_
    refine z_idiv dX8_look_122 (by decide) ?_
    refine z_iret dX8_look_123 rfl ?_
    refine ⟨?_, rfl⟩
    unfold mlook
    rw [if_neg (show ¬ (2 : Nat) = 0 by decide), if_neg (show ¬ (2 : Nat) = 4 by decide), h32, if_neg (nIneg (by omega))]
    rw [if_neg (show ¬ (2 : Nat) = 1 by decide), if_pos (show (2 : Nat) = 2 from rfl), zl24, zl6, zl4, zrem (by omega) (by omega) (by omega), zdiv (by omega) (by omega) (by omega), zdiv (by omega) (by omega) (by omega), zrem (by omega) (by omega) (by omega), show (168 * w' + S) / 6 % 4 = S % 24 / 6 by omega]
set_option maxHeartbeats 4000000 in
theorem c8_look3 (n : Nat) (K : Nat → Nat × Nat) (J : Nat → Nat → Int32) (L : Nat → Nat → Int64) (R : Nat → Nat → Option Nat) (P G : Nat) (pa ga : Nat → Nat) (ru sp : Nat) (hG : kG n K R P G pa ga ru sp) (I : Nat → Nat → Int32) (D : Nat) (hD : kD J I P G D pa ga) (hv : kIv I P G) (j : Nat) (hj : j < G) : Zm yX8_look cX8_look 4 (some .int) 3 120 0 0 [.ref 0, .int (nI j), .int 3] (n, K, J, L, R) (kQ (some (.int (mlook I j 3))) n K J L R) := by
  refine Zm_of (lg := false) (by decide) (fun _ => by simp [Value.category]) (fun _ => Nat.le_of_ble_eq_true rfl) ?_
  show Zf x8_look 0 0 0 (zargs [.ref 0, .int (nI j), .int 3]) [] (n, K, J, L, R) _
  obtain ⟨⟨hn28, hP6, hG60⟩, ⟨hk0, hk1, hk2, hk3, hk4, hk5, hk6, hk7⟩, ⟨hr0, hr1, hr2, hr3, hr4, hr5, hr6⟩, ⟨hr7, hr8, hr9, hr10, hr11, hr12⟩, hB8, ⟨hT11, hR17, hT13⟩, ⟨hU18, hU23, hrs⟩, ⟨hgm, hgi⟩, ⟨hpm, hpi⟩⟩ := id hG
  have hn0 : 0 < n := by omega
  have hn1 : 1 < n := by omega
  have hn2 : 2 < n := by omega
  have hn3 : 3 < n := by omega
  have hn4 : 4 < n := by omega
  have hn5 : 5 < n := by omega
  have hn6 : 6 < n := by omega
  have hn7 : 7 < n := by omega
  have hn8 : 8 < n := by omega
  have hk8 : K 8 = (5, 0) := hB8.2.2.2.1
  have hn11 : 11 < n := by omega
  have hk11 : K 11 = (10, 0) := hT11.2.2.1
  obtain ⟨⟨h13, h14, h15⟩, hdg, hdp, hdt, hdc⟩ := id hD
  obtain ⟨hgr, hg28, hga, hgk⟩ := hgm j hj
  have hm := hdg j hj
  obtain ⟨-, -, -, -, w', hw', h29, hs⟩ := hv.1 j hj
  rcases hs with ⟨-, -, h32⟩ | ⟨-, S, h32, hS, -⟩
  · have h8 := kslot_none hm h32
    refine z_iload_n (i := 1) dX8_look_0 rfl rfl ?_
    refine z_if_lt 21 dX8_look_1 (by decide) (fun c_1 => absurd c_1 (nIneg (by omega))) (fun _ => ?_)
    refine z_iload_n (i := 1) dX8_look_4 rfl rfl ?_
    refine z_aload_n (i := 0) dX8_look_5 rfl rfl ?_
    refine z_gI zf8_81.g dX8_look_6 hn0 hk0 ?_
    rw [h14]
    refine z_icmp_ge 21 dX8_look_9 (by decide) (fun c_2 => absurd c_2 (fun q => by have := (zle (by omega) (by omega)).mp q; omega)) (fun _ => ?_)
    refine z_iload_n (i := 2) dX8_look_12 rfl rfl ?_
    refine z_if_lt 21 dX8_look_13 (by decide) (fun c_3 => absurd c_3 (by decide)) (fun _ => ?_)
    refine z_iload_n (i := 2) dX8_look_16 rfl rfl ?_
    refine z_iconst (v := 4) dX8_look_17 (by decide) ?_
    refine z_icmp_le 31 dX8_look_18 (by decide) (fun _ => ?_) (fun c_4 => absurd (by decide) c_4)
    refine z_aload_n (i := 0) dX8_look_31 rfl rfl ?_
    refine z_gR zf8_17.g dX8_look_32 hn0 hk0 hr1 ?_
    refine z_iload_n (i := 1) dX8_look_35 rfl rfl ?_
    refine z_aaldQ dX8_look_36 hn2 hk2 (zvin (by omega) (by omega)) (by rw [zcl (by omega)]; exact hgr) ?_
    refine z_astore_n (i := 3) dX8_look_37 rfl (by decide) rfl ?_
    refine z_iload_n (i := 2) dX8_look_38 rfl rfl ?_
    refine z_tableIn (off := 85) 124 dX8_look_39 (by decide) (by decide) (by decide) (by decide) ?_
    refine z_aload_n (i := 3) dX8_look_124 rfl rfl ?_
    refine z_gI zf8_172.g dX8_look_125 hga hgk ?_
    rw [h8]
    refine z_iconst (v := (-1)) dX8_look_128 (by decide) ?_
    refine z_icmp_ne 136 dX8_look_129 (by decide) (fun c_5 => absurd c_5 (fun q => q rfl)) (fun _ => ?_)
    refine z_iconst (v := (-1)) dX8_look_132 (by decide) ?_
    refine z_goto 143 dX8_look_133 (by decide) ?_
    refine z_iret dX8_look_143 rfl ?_
    refine ⟨?_, rfl⟩
    unfold mlook
    rw [if_neg (show ¬ (3 : Nat) = 0 by decide), if_neg (show ¬ (3 : Nat) = 4 by decide), h32, if_pos (by decide)]
  · have h8 := kslot_there hm hw' h29 hS h32
    refine z_iload_n (i := 1) dX8_look_0 rfl rfl ?_
    refine z_if_lt 21 dX8_look_1 (by decide) (fun c_1 => absurd c_1 (nIneg (by omega))) (fun _ => ?_)
    refine z_iload_n (i := 1) dX8_look_4 rfl rfl ?_
    refine z_aload_n (i := 0) dX8_look_5 rfl rfl ?_
    refine z_gI zf8_81.g dX8_look_6 hn0 hk0 ?_
    rw [h14]
    refine z_icmp_ge 21 dX8_look_9 (by decide) (fun c_2 => absurd c_2 (fun q => by have := (zle (by omega) (by omega)).mp q; omega)) (fun _ => ?_)
    refine z_iload_n (i := 2) dX8_look_12 rfl rfl ?_
    refine z_if_lt 21 dX8_look_13 (by decide) (fun c_3 => absurd c_3 (by decide)) (fun _ => ?_)
    refine z_iload_n (i := 2) dX8_look_16 rfl rfl ?_
    refine z_iconst (v := 4) dX8_look_17 (by decide) ?_
    refine z_icmp_le 31 dX8_look_18 (by decide) (fun _ => ?_) (fun c_4 => absurd (by decide) c_4)
    refine z_aload_n (i := 0) dX8_look_31 rfl rfl ?_
    refine z_gR zf8_17.g dX8_look_32 hn0 hk0 hr1 ?_
    refine z_iload_n (i := 1) dX8_look_35 rfl rfl ?_
    refine z_aaldQ dX8_look_36 hn2 hk2 (zvin (by omega) (by omega)) (by rw [zcl (by omega)]; exact hgr) ?_
    refine z_astore_n (i := 3) dX8_look_37 rfl (by decide) rfl ?_
    refine z_iload_n (i := 2) dX8_look_38 rfl rfl ?_
    refine z_tableIn (off := 85) 124 dX8_look_39 (by decide) (by decide) (by decide) (by decide) ?_
    refine z_aload_n (i := 3) dX8_look_124 rfl rfl ?_
    refine z_gI zf8_172.g dX8_look_125 hga hgk ?_
    rw [h8]
    refine z_iconst (v := (-1)) dX8_look_128 (by decide) ?_
    refine z_icmp_ne 136 dX8_look_129 (by decide) (fun _ => ?_) (fun c_5 => absurd c_5 (nIne1 (show S ≤ 1000000 by omega)))
    refine z_aload_n (i := 3) dX8_look_136 rfl rfl ?_
    refine z_gI zf8_172.g dX8_look_137 hga hgk ?_
    rw [h8]
    refine z_bipush (v := 6) dX8_look_140 (by decide) ?_
    refine z_irem dX8_look_142 (by decide) ?_
    refine z_iret dX8_look_143 rfl ?_
    refine ⟨?_, rfl⟩
    unfold mlook
    rw [if_neg (show ¬ (3 : Nat) = 0 by decide), if_neg (show ¬ (3 : Nat) = 4 by decide), h32, if_neg (nIneg (by omega))]
    rw [if_neg (show ¬ (3 : Nat) = 1 by decide), if_neg (show ¬ (3 : Nat) = 2 by decide), zl6, zrem (by omega) (by omega) (by omega), zrem (by omega) (by omega) (by omega), show (168 * w' + S) % 6 = S % 6 by omega]
set_option maxHeartbeats 4000000 in
theorem c8_look4 (n : Nat) (K : Nat → Nat × Nat) (J : Nat → Nat → Int32) (L : Nat → Nat → Int64) (R : Nat → Nat → Option Nat) (P G : Nat) (pa ga : Nat → Nat) (ru sp : Nat) (hG : kG n K R P G pa ga ru sp) (I : Nat → Nat → Int32) (D : Nat) (hD : kD J I P G D pa ga) (hv : kIv I P G) (j : Nat) (hj : j < G) : Zm yX8_look cX8_look 4 (some .int) 3 120 0 0 [.ref 0, .int (nI j), .int 4] (n, K, J, L, R) (kQ (some (.int (mlook I j 4))) n K J L R) := by
  refine Zm_of (lg := false) (by decide) (fun _ => by simp [Value.category]) (fun _ => Nat.le_of_ble_eq_true rfl) ?_
  show Zf x8_look 0 0 0 (zargs [.ref 0, .int (nI j), .int 4]) [] (n, K, J, L, R) _
  obtain ⟨⟨hn28, hP6, hG60⟩, ⟨hk0, hk1, hk2, hk3, hk4, hk5, hk6, hk7⟩, ⟨hr0, hr1, hr2, hr3, hr4, hr5, hr6⟩, ⟨hr7, hr8, hr9, hr10, hr11, hr12⟩, hB8, ⟨hT11, hR17, hT13⟩, ⟨hU18, hU23, hrs⟩, ⟨hgm, hgi⟩, ⟨hpm, hpi⟩⟩ := id hG
  have hn0 : 0 < n := by omega
  have hn1 : 1 < n := by omega
  have hn2 : 2 < n := by omega
  have hn3 : 3 < n := by omega
  have hn4 : 4 < n := by omega
  have hn5 : 5 < n := by omega
  have hn6 : 6 < n := by omega
  have hn7 : 7 < n := by omega
  have hn8 : 8 < n := by omega
  have hk8 : K 8 = (5, 0) := hB8.2.2.2.1
  have hn11 : 11 < n := by omega
  have hk11 : K 11 = (10, 0) := hT11.2.2.1
  obtain ⟨⟨h13, h14, h15⟩, hdg, hdp, hdt, hdc⟩ := id hD
  obtain ⟨hgr, hg28, hga, hgk⟩ := hgm j hj
  have hm := hdg j hj
  obtain ⟨-, -, -, -, w', hw', h29, hs⟩ := hv.1 j hj
  refine z_iload_n (i := 1) dX8_look_0 rfl rfl ?_
  refine z_if_lt 21 dX8_look_1 (by decide) (fun c_1 => absurd c_1 (nIneg (by omega))) (fun _ => ?_)
  refine z_iload_n (i := 1) dX8_look_4 rfl rfl ?_
  refine z_aload_n (i := 0) dX8_look_5 rfl rfl ?_
  refine z_gI zf8_81.g dX8_look_6 hn0 hk0 ?_
  rw [h14]
  refine z_icmp_ge 21 dX8_look_9 (by decide) (fun c_2 => absurd c_2 (fun q => by have := (zle (by omega) (by omega)).mp q; omega)) (fun _ => ?_)
  refine z_iload_n (i := 2) dX8_look_12 rfl rfl ?_
  refine z_if_lt 21 dX8_look_13 (by decide) (fun c_3 => absurd c_3 (by decide)) (fun _ => ?_)
  refine z_iload_n (i := 2) dX8_look_16 rfl rfl ?_
  refine z_iconst (v := 4) dX8_look_17 (by decide) ?_
  refine z_icmp_le 31 dX8_look_18 (by decide) (fun _ => ?_) (fun c_4 => absurd (by decide) c_4)
  refine z_aload_n (i := 0) dX8_look_31 rfl rfl ?_
  refine z_gR zf8_17.g dX8_look_32 hn0 hk0 hr1 ?_
  refine z_iload_n (i := 1) dX8_look_35 rfl rfl ?_
  refine z_aaldQ dX8_look_36 hn2 hk2 (zvin (by omega) (by omega)) (by rw [zcl (by omega)]; exact hgr) ?_
  refine z_astore_n (i := 3) dX8_look_37 rfl (by decide) rfl ?_
  refine z_iload_n (i := 2) dX8_look_38 rfl rfl ?_
  refine z_tableOut 144 dX8_look_39 (by decide) (by decide) ?_
  refine z_aload_n (i := 3) dX8_look_144 rfl rfl ?_
  refine z_gI zf8_175.g dX8_look_145 hga hgk ?_
  refine z_iret dX8_look_148 rfl ?_
  rw [hm.2.2.2.2.2]
  exact ⟨rfl, rfl⟩
/-! the board of a week -/
def kBw (J I : Nat → Nat → Int32) (G W : Nat) : Prop := (∀ S, S < 168 → (zbt (J 9 (S / 24)) (S % 24) = true ↔ ∃ g, g < G ∧ mth I g = true ∧ I 32 g = nI (168 * W + S))) ∧ (∀ d c, d < 7 → c < 32 → (zbt (J 10 d) c = true ↔ ∃ g, g < G ∧ mth I g = true ∧ (∃ x, x < 24 ∧ I 32 g = nI (168 * W + 24 * d + x)) ∧ mhc I g (nI c) = true))
theorem kBw_cong {J I J' : Nat → Nat → Int32} {G W : Nat} (h : kBw J I G W) (h9 : J' 9 = J 9) (h10 : J' 10 = J 10) : kBw J' I G W := by
  unfold kBw
  rw [h9, h10]
  exact h
theorem kBw_I {J I I' : Nat → Nat → Int32} {G W : Nat} (h : kBw J I G W) (hI : ∀ a, a = 25 ∨ a = 26 ∨ a = 32 → I' a = I a) (hm : ∀ g, g < G → mth I' g = mth I g) : kBw J I' G W := by
  obtain ⟨h1, h2⟩ := h
  refine ⟨fun S hS => (h1 S hS).trans ⟨fun ⟨g, a, b, c⟩ => ⟨g, a, by rw [hm g a]; exact b, by rw [hI 32 (by omega)]; exact c⟩, fun ⟨g, a, b, c⟩ => ⟨g, a, by rw [← hm g a]; exact b, by rw [← hI 32 (by omega)]; exact c⟩⟩, fun d c hd hc => (h2 d c hd hc).trans ?_⟩
  have hmc : ∀ g x, mhc I' g x = mhc I g x := fun g x => by unfold mhc; rw [hI 25 (by omega), hI 26 (by omega)]
  exact ⟨fun ⟨g, a, b, e, f⟩ => ⟨g, a, by rw [hm g a]; exact b, by rw [hI 32 (by omega)]; exact e, by rw [hmc]; exact f⟩, fun ⟨g, a, b, e, f⟩ => ⟨g, a, by rw [← hm g a]; exact b, by rw [← hI 32 (by omega)]; exact e, by rw [← hmc]; exact f⟩⟩
/-- the clubs of a game, as bits -/
def kcb (I : Nat → Nat → Int32) (g : Nat) : Int32 := (1 <<< (I 25 g &&& 31)) ||| (1 <<< (I 26 g &&& 31))
theorem kcb_b {I : Nat → Nat → Int32} {P g c : Nat} (hi : kIg I P g) (hc : c < 32) : zbt (kcb I g) c = mhc I g (nI c) := by
  obtain ⟨⟨a, b, ha, hb, -, h25, h26⟩, -⟩ := hi
  unfold kcb mhc
  rw [h25, h26, zbt_or, zbt_bit (by omega) hc, zbt_bit (by omega) hc]
  have e1 : decide (c = a) = decide (nI a = nI c) := by
    rw [decide_eq_decide, zeq (by omega) (by omega)]
    exact ⟨Eq.symm, Eq.symm⟩
  have e2 : decide (c = b) = decide (nI b = nI c) := by
    rw [decide_eq_decide, zeq (by omega) (by omega)]
    exact ⟨Eq.symm, Eq.symm⟩
  rw [e1, e2]
theorem kday {W d x : Nat} (hW : W ≤ 50) (hd : d < 7) (hx : x < 24) : nI (168 * W + 24 * d + x) / 24 = nI (7 * W + d) := by
  rw [kdiv24 (by omega), show (168 * W + 24 * d + x) / 24 = 7 * W + d by omega]
/-- a game that is there lies in its own week -/
theorem kthere {I : Nat → Nat → Int32} {P g : Nat} (hi : kIg I P g) (ht : mth I g = true) : ∃ w S, w ≤ 50 ∧ I 29 g = nI w ∧ S < 168 ∧ S % 6 < P ∧ I 32 g = nI (168 * w + S) := by
  obtain ⟨-, -, -, -, w, hw, h29, hs⟩ := hi
  rcases hs with ⟨h1, -⟩ | ⟨-, S, h2, h3, h4⟩
  · rw [h1] at ht; cases ht
  · exact ⟨w, S, hw, h29, h3, h4, h2⟩
theorem knot {I : Nat → Nat → Int32} {P g : Nat} (hi : kIg I P g) (ht : mth I g = false) : I 32 g = -1 := by
  obtain ⟨-, -, -, -, w, hw, h29, hs⟩ := hi
  rcases hs with ⟨-, -, h3⟩ | ⟨h1, -⟩
  · exact h3
  · rw [h1] at ht; cases ht
