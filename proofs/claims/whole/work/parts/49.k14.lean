abbrev x6_markKind : ZX := (RX6, cX6_markKind, 1, (some .int), "markKind", 0, 0, false)
set_option maxHeartbeats 4000000 in
theorem c6_markKind (n : Nat) (K : Nat → Nat × Nat) (I : Nat → Nat → Int32) (L : Nat → Nat → Int64) (R : Nat → Nat → Option Nat) (c : Nat) (hc : c ≤ 1000) : Zm yX6_markKind cX6_markKind 1 (some .int) 0 0 0 0 [.int (nI c)] (n, K, I, L, R) (kQ (some (.int (nI (if isMark c = true then c else 1)))) n K I L R) := by
  refine Zm_of (lg := false) (by decide) (fun _ => by simp [Value.category]) (fun _ => Nat.le_of_ble_eq_true rfl) ?_
  show Zf x6_markKind 0 0 0 (zargs [.int (nI c)]) [] (n, K, I, L, R) _
  refine z_iload_n (i := 0) dX6_markKind_0 rfl rfl ?_
  have e9 : (nI c).toInt = (c : Int) := nI_toInt (by omega)
  rcases (show c = 40 ∨ c = 41 ∨ c = 42 ∨ c = 43 ∨ c = 44 ∨ c = 45 ∨ c = 46 ∨ c = 47 ∨ c = 48 ∨ c = 49 ∨ c = 50 ∨ c = 51 ∨ c = 52 ∨ c = 53 ∨ c = 54 ∨ c = 55 ∨ c = 56 ∨ c = 57 ∨ c = 58 ∨ c = 59 ∨ c = 60 ∨ c = 61 ∨ (c < 40 ∨ 61 < c) by omega) with rfl | rfl | rfl | rfl | rfl | rfl | rfl | rfl | rfl | rfl | rfl | rfl | rfl | rfl | rfl | rfl | rfl | rfl | rfl | rfl | rfl | rfl | hc2
  · refine z_tableIn (off := 103) 104 dX6_markKind_1 (by decide) (by decide) (by decide) (by decide) ?_
    refine z_iload_n (i := 0) dX6_markKind_104 rfl rfl ?_
    refine z_iret dX6_markKind_105 rfl ?_
    exact ⟨rfl, rfl⟩
  · refine z_tableIn (off := 103) 104 dX6_markKind_1 (by decide) (by decide) (by decide) (by decide) ?_
    refine z_iload_n (i := 0) dX6_markKind_104 rfl rfl ?_
    refine z_iret dX6_markKind_105 rfl ?_
    exact ⟨rfl, rfl⟩
  · refine z_tableIn (off := 105) 106 dX6_markKind_1 (by decide) (by decide) (by decide) (by decide) ?_
    refine z_iconst (v := 1) dX6_markKind_106 (by decide) ?_
    refine z_iret dX6_markKind_107 rfl ?_
    exact ⟨rfl, rfl⟩
  · refine z_tableIn (off := 103) 104 dX6_markKind_1 (by decide) (by decide) (by decide) (by decide) ?_
    refine z_iload_n (i := 0) dX6_markKind_104 rfl rfl ?_
    refine z_iret dX6_markKind_105 rfl ?_
    exact ⟨rfl, rfl⟩
  · refine z_tableIn (off := 105) 106 dX6_markKind_1 (by decide) (by decide) (by decide) (by decide) ?_
    refine z_iconst (v := 1) dX6_markKind_106 (by decide) ?_
    refine z_iret dX6_markKind_107 rfl ?_
    exact ⟨rfl, rfl⟩
  · refine z_tableIn (off := 103) 104 dX6_markKind_1 (by decide) (by decide) (by decide) (by decide) ?_
    refine z_iload_n (i := 0) dX6_markKind_104 rfl rfl ?_
    refine z_iret dX6_markKind_105 rfl ?_
    exact ⟨rfl, rfl⟩
  · refine z_tableIn (off := 105) 106 dX6_markKind_1 (by decide) (by decide) (by decide) (by decide) ?_
    refine z_iconst (v := 1) dX6_markKind_106 (by decide) ?_
    refine z_iret dX6_markKind_107 rfl ?_
    exact ⟨rfl, rfl⟩
  · refine z_tableIn (off := 105) 106 dX6_markKind_1 (by decide) (by decide) (by decide) (by decide) ?_
    refine z_iconst (v := 1) dX6_markKind_106 (by decide) ?_
    refine z_iret dX6_markKind_107 rfl ?_
    exact ⟨rfl, rfl⟩
  · refine z_tableIn (off := 105) 106 dX6_markKind_1 (by decide) (by decide) (by decide) (by decide) ?_
    refine z_iconst (v := 1) dX6_markKind_106 (by decide) ?_
    refine z_iret dX6_markKind_107 rfl ?_
    exact ⟨rfl, rfl⟩
  · refine z_tableIn (off := 105) 106 dX6_markKind_1 (by decide) (by decide) (by decide) (by decide) ?_
    refine z_iconst (v := 1) dX6_markKind_106 (by decide) ?_
    refine z_iret dX6_markKind_107 rfl ?_
    exact ⟨rfl, rfl⟩
  · refine z_tableIn (off := 105) 106 dX6_markKind_1 (by decide) (by decide) (by decide) (by decide) ?_
    refine z_iconst (v := 1) dX6_markKind_106 (by decide) ?_
    refine z_iret dX6_markKind_107 rfl ?_
    exact ⟨rfl, rfl⟩
  · refine z_tableIn (off := 105) 106 dX6_markKind_1 (by decide) (by decide) (by decide) (by decide) ?_
    refine z_iconst (v := 1) dX6_markKind_106 (by decide) ?_
    refine z_iret dX6_markKind_107 rfl ?_
    exact ⟨rfl, rfl⟩
  · refine z_tableIn (off := 105) 106 dX6_markKind_1 (by decide) (by decide) (by decide) (by decide) ?_
    refine z_iconst (v := 1) dX6_markKind_106 (by decide) ?_
    refine z_iret dX6_markKind_107 rfl ?_
    exact ⟨rfl, rfl⟩
  · refine z_tableIn (off := 105) 106 dX6_markKind_1 (by decide) (by decide) (by decide) (by decide) ?_
    refine z_iconst (v := 1) dX6_markKind_106 (by decide) ?_
    refine z_iret dX6_markKind_107 rfl ?_
    exact ⟨rfl, rfl⟩
  · refine z_tableIn (off := 105) 106 dX6_markKind_1 (by decide) (by decide) (by decide) (by decide) ?_
    refine z_iconst (v := 1) dX6_markKind_106 (by decide) ?_
    refine z_iret dX6_markKind_107 rfl ?_
    exact ⟨rfl, rfl⟩
  · refine z_tableIn (off := 105) 106 dX6_markKind_1 (by decide) (by decide) (by decide) (by decide) ?_
    refine z_iconst (v := 1) dX6_markKind_106 (by decide) ?_
    refine z_iret dX6_markKind_107 rfl ?_
    exact ⟨rfl, rfl⟩
  · refine z_tableIn (off := 105) 106 dX6_markKind_1 (by decide) (by decide) (by decide) (by decide) ?_
    refine z_iconst (v := 1) dX6_markKind_106 (by decide) ?_
    refine z_iret dX6_markKind_107 rfl ?_
    exact ⟨rfl, rfl⟩
  · refine z_tableIn (off := 105) 106 dX6_markKind_1 (by decide) (by decide) (by decide) (by decide) ?_
    refine z_iconst (v := 1) dX6_markKind_106 (by decide) ?_
    refine z_iret dX6_markKind_107 rfl ?_
    exact ⟨rfl, rfl⟩
  · refine z_tableIn (off := 105) 106 dX6_markKind_1 (by decide) (by decide) (by decide) (by decide) ?_
    refine z_iconst (v := 1) dX6_markKind_106 (by decide) ?_
    refine z_iret dX6_markKind_107 rfl ?_
    exact ⟨rfl, rfl⟩
  · refine z_tableIn (off := 103) 104 dX6_markKind_1 (by decide) (by decide) (by decide) (by decide) ?_
    refine z_iload_n (i := 0) dX6_markKind_104 rfl rfl ?_
    refine z_iret dX6_markKind_105 rfl ?_
    exact ⟨rfl, rfl⟩
  · refine z_tableIn (off := 103) 104 dX6_markKind_1 (by decide) (by decide) (by decide) (by decide) ?_
    refine z_iload_n (i := 0) dX6_markKind_104 rfl rfl ?_
    refine z_iret dX6_markKind_105 rfl ?_
    exact ⟨rfl, rfl⟩
  · refine z_tableIn (off := 103) 104 dX6_markKind_1 (by decide) (by decide) (by decide) (by decide) ?_
    refine z_iload_n (i := 0) dX6_markKind_104 rfl rfl ?_
    refine z_iret dX6_markKind_105 rfl ?_
    exact ⟨rfl, rfl⟩
  · refine z_tableOut 106 dX6_markKind_1 (by rw [e9]; omega) (by decide) ?_
    refine z_iconst (v := 1) dX6_markKind_106 (by decide) ?_
    refine z_iret dX6_markKind_107 rfl ?_
    have hm : ¬ isMark c = true := fun q => by have := isMark_or q; omega
    rw [if_neg hm]
    exact ⟨rfl, rfl⟩
abbrev x8_isClub : ZX := (RX8, cX8_isClub, 1, (some .boolean), "isClub", 0, 0, false)
set_option maxHeartbeats 4000000 in
theorem c8_isClub (n : Nat) (K : Nat → Nat × Nat) (I : Nat → Nat → Int32) (L : Nat → Nat → Int64) (R : Nat → Nat → Option Nat) (c : Int32) : Zm yX8_isClub cX8_isClub 1 (some .boolean) 0 0 0 0 [.int c] ((n, K, I, L, R)) (kQ (some (.int (if c < 0 then 0 else if 16 ≤ c then 0 else 1))) n K I L R) := by
  refine Zm_of (lg := false) (by decide) (fun _ => by simp [Value.category]) (fun _ => Nat.le_of_ble_eq_true rfl) ?_
  show Zf x8_isClub 0 0 0 (zargs [.int c]) [] ((n, K, I, L, R)) _
  refine z_iload_n (i := 0) dX8_isClub_0 rfl rfl ?_
  refine z_if_lt 14 dX8_isClub_1 (by decide) (fun c_1 => ?_) (fun c_1 => ?_)
  · skip
    refine z_iconst (v := 0) dX8_isClub_14 (by decide) ?_
    refine z_zret dX8_isClub_15 rfl (by decide) ?_
    exact ⟨by simp [*], rfl⟩
  · skip
    refine z_iload_n (i := 0) dX8_isClub_4 rfl rfl ?_
    refine z_bipush (v := 16) dX8_isClub_5 (by decide) ?_
    refine z_icmp_ge 14 dX8_isClub_7 (by decide) (fun c_2 => ?_) (fun c_2 => ?_)
    · skip
      refine z_iconst (v := 0) dX8_isClub_14 (by decide) ?_
      refine z_zret dX8_isClub_15 rfl (by decide) ?_
      exact ⟨by simp [*], rfl⟩
    · skip
      refine z_iconst (v := 1) dX8_isClub_10 (by decide) ?_
      refine z_goto 15 dX8_isClub_11 (by decide) ?_
      refine z_zret dX8_isClub_15 rfl (by decide) ?_
      exact ⟨by simp [*], rfl⟩
abbrev x8_isPitch : ZX := (RX8, cX8_isPitch, 2, (some .boolean), "isPitch", 0, 0, false)
set_option maxHeartbeats 4000000 in
theorem c8_isPitch (n : Nat) (K : Nat → Nat × Nat) (I : Nat → Nat → Int32) (L : Nat → Nat → Int64) (R : Nat → Nat → Option Nat) (q : Nat) (hqa : q < n) (hqk : K q = (13, 0)) (c : Int32) : Zm yX8_isPitch cX8_isPitch 2 (some .boolean) 0 0 0 0 [.ref q, .int c] ((n, K, I, L, R)) (kQ (some (.int (if c < 0 then 0 else if I q 13 ≤ c then 0 else 1))) n K I L R) := by
  refine Zm_of (lg := false) (by decide) (fun _ => by simp [Value.category]) (fun _ => Nat.le_of_ble_eq_true rfl) ?_
  show Zf x8_isPitch 0 0 0 (zargs [.ref q, .int c]) [] ((n, K, I, L, R)) _
  refine z_iload_n (i := 1) dX8_isPitch_0 rfl rfl ?_
  refine z_if_lt 16 dX8_isPitch_1 (by decide) (fun c_1 => ?_) (fun c_1 => ?_)
  · skip
    refine z_iconst (v := 0) dX8_isPitch_16 (by decide) ?_
    refine z_zret dX8_isPitch_17 rfl (by decide) ?_
    exact ⟨by simp [*], rfl⟩
  · skip
    refine z_iload_n (i := 1) dX8_isPitch_4 rfl rfl ?_
    refine z_aload_n (i := 0) dX8_isPitch_5 rfl rfl ?_
    refine z_gI zf8_77.g dX8_isPitch_6 hqa hqk ?_
    refine z_icmp_ge 16 dX8_isPitch_9 (by decide) (fun c_2 => ?_) (fun c_2 => ?_)
    · skip
      refine z_iconst (v := 0) dX8_isPitch_16 (by decide) ?_
      refine z_zret dX8_isPitch_17 rfl (by decide) ?_
      exact ⟨by simp [*], rfl⟩
    · skip
      refine z_iconst (v := 1) dX8_isPitch_12 (by decide) ?_
      refine z_goto 17 dX8_isPitch_13 (by decide) ?_
      refine z_zret dX8_isPitch_17 rfl (by decide) ?_
      exact ⟨by simp [*], rfl⟩
abbrev x8_isWeekToCome : ZX := (RX8, cX8_isWeekToCome, 2, (some .boolean), "isWeekToCome", 0, 0, false)
set_option maxHeartbeats 4000000 in
theorem c8_isWeekToCome (n : Nat) (K : Nat → Nat × Nat) (I : Nat → Nat → Int32) (L : Nat → Nat → Int64) (R : Nat → Nat → Option Nat) (q : Nat) (hqa : q < n) (hqk : K q = (13, 0)) (w : Int32) : Zm yX8_isWeekToCome cX8_isWeekToCome 2 (some .boolean) 0 0 0 0 [.ref q, .int w] ((n, K, I, L, R)) (kQ (some (.int (if w < 0 then 0 else if 51 ≤ w then 0 else if (w + 1) * 7 ≤ I q 15 then 0 else 1))) n K I L R) := by
  refine Zm_of (lg := false) (by decide) (fun _ => by simp [Value.category]) (fun _ => Nat.le_of_ble_eq_true rfl) ?_
  show Zf x8_isWeekToCome 0 0 0 (zargs [.ref q, .int w]) [] ((n, K, I, L, R)) _
  refine z_iload_n (i := 1) dX8_isWeekToCome_0 rfl rfl ?_
  refine z_if_lt 27 dX8_isWeekToCome_1 (by decide) (fun c_1 => ?_) (fun c_1 => ?_)
  · skip
    refine z_iconst (v := 0) dX8_isWeekToCome_27 (by decide) ?_
    refine z_zret dX8_isWeekToCome_28 rfl (by decide) ?_
    exact ⟨by simp [*], rfl⟩
  · skip
    refine z_iload_n (i := 1) dX8_isWeekToCome_4 rfl rfl ?_
    refine z_bipush (v := 51) dX8_isWeekToCome_5 (by decide) ?_
    refine z_icmp_ge 27 dX8_isWeekToCome_7 (by decide) (fun c_2 => ?_) (fun c_2 => ?_)
    · skip
      refine z_iconst (v := 0) dX8_isWeekToCome_27 (by decide) ?_
      refine z_zret dX8_isWeekToCome_28 rfl (by decide) ?_
      exact ⟨by simp [*], rfl⟩
    · skip
      refine z_aload_n (i := 0) dX8_isWeekToCome_10 rfl rfl ?_
      refine z_gI zf8_84.g dX8_isWeekToCome_11 hqa hqk ?_
      refine z_iload_n (i := 1) dX8_isWeekToCome_14 rfl rfl ?_
      refine z_iconst (v := 1) dX8_isWeekToCome_15 (by decide) ?_
      refine z_iadd dX8_isWeekToCome_16 ?_
      refine z_bipush (v := 7) dX8_isWeekToCome_17 (by decide) ?_
      refine z_imul dX8_isWeekToCome_19 ?_
      refine z_icmp_ge 27 dX8_isWeekToCome_20 (by decide) (fun c_3 => ?_) (fun c_3 => ?_)
      · skip
        refine z_iconst (v := 0) dX8_isWeekToCome_27 (by decide) ?_
        refine z_zret dX8_isWeekToCome_28 rfl (by decide) ?_
        exact ⟨by simp [*], rfl⟩
      · skip
        refine z_iconst (v := 1) dX8_isWeekToCome_23 (by decide) ?_
        refine z_goto 28 dX8_isWeekToCome_24 (by decide) ?_
        refine z_zret dX8_isWeekToCome_28 rfl (by decide) ?_
        exact ⟨by simp [*], rfl⟩
abbrev x8_slotOf : ZX := (RX8, cX8_slotOf, 3, (some .int), "slotOf", 0, 0, false)
set_option maxHeartbeats 4000000 in
theorem c8_slotOf (n : Nat) (K : Nat → Nat × Nat) (I : Nat → Nat → Int32) (L : Nat → Nat → Int64) (R : Nat → Nat → Option Nat) (D h p : Nat) (hD : D ≤ 400) (hh : h < 4) (hp : p < 6) : Zm yX8_slotOf cX8_slotOf 3 (some .int) 0 0 0 0 [.int (nI D), .int (nI h), .int (nI p)] ((n, K, I, L, R)) (kQ (some (.int (nI (24 * (D % 7) + 6 * h + p)))) n K I L R) := by
  refine Zm_of (lg := false) (by decide) (fun _ => by simp [Value.category]) (fun _ => Nat.le_of_ble_eq_true rfl) ?_
  show Zf x8_slotOf 0 0 0 (zargs [.int (nI D), .int (nI h), .int (nI p)]) [] ((n, K, I, L, R)) _
  refine z_iload_n (i := 0) dX8_slotOf_0 rfl rfl ?_
  refine z_bipush (v := 7) dX8_slotOf_1 (by decide) ?_
  refine z_irem dX8_slotOf_3 (by decide) ?_
  rw [zl7, zrem (by omega) (by omega) (by omega)]
  refine z_bipush (v := 24) dX8_slotOf_4 (by decide) ?_
  refine z_imul dX8_slotOf_6 ?_
  refine z_iload_n (i := 1) dX8_slotOf_7 rfl rfl ?_
  refine z_bipush (v := 6) dX8_slotOf_8 (by decide) ?_
  refine z_imul dX8_slotOf_10 ?_
  refine z_iadd dX8_slotOf_11 ?_
  refine z_iload_n (i := 2) dX8_slotOf_12 rfl rfl ?_
  refine z_iadd dX8_slotOf_13 ?_
  refine z_top (y := .int (nI (24 * (D % 7) + 6 * h + p))) (by rw [zl24, zl6, pk_mul, pk_mul, nI_add, nI_add, Nat.mul_comm (D % 7) 24, Nat.mul_comm h 6]) ?_
  refine z_iret dX8_slotOf_14 rfl ?_
  exact ⟨rfl, rfl⟩
abbrev x8_feed : ZX := (RX8, cX8_feed, 7, (some .int), "feed", 1, 40, true)
set_option maxHeartbeats 4000000 in
theorem c8_feed (n : Nat) (K : Nat → Nat × Nat) (I : Nat → Nat → Int32) (L : Nat → Nat → Int64) (R : Nat → Nat → Option Nat) (q t s : Nat) (a b c : Int64) (hqa : q < n) (hqk : K q = (13, 0)) (hq8 : R q 8 = some t) (ht : kTp n K R t s) (ok : ktp I t) : Zm yX8_feed cX8_feed 7 (some .int) 1 40 0 0 [.ref q, .long a, .long b, .long c] ((n, K, I, L, R)) (kQ (some (.int (kfd (kfd (kfd I t s a 8) t s b 8) t s c 8 t 1))) n K (kfd (kfd (kfd I t s a 8) t s b 8) t s c 8) L R) := by
  refine Zm_of (lg := true) (by decide) (fun h => by cases h) (fun _ => Nat.le_of_ble_eq_true rfl) ?_
  show Zf x8_feed 0 0 0 (zargs [.ref q, .long a, .long b, .long c]) [] ((n, K, I, L, R)) _
  generalize hQ0 : (kQ (some (.int (kfd (kfd (kfd I t s a 8) t s b 8) t s c 8 t 1))) n K (kfd (kfd (kfd I t s a 8) t s b 8) t s c 8) L R : Option Value → ZH → Prop) = Q0
  refine z_aload_n (i := 0) dX8_feed_0 rfl rfl ?_
  refine z_gR zf8_49.g dX8_feed_1 hqa hqk hq8 ?_
  refine z_lload_n (i := 1) dX8_feed_4 rfl rfl ?_
  refine z_callV (st := []) (mc2 := 0) (ms2 := 0) zi8_121 zv_yX5_addBytes (c5_addBytes n K I L R t s a ht ok) dX8_feed_5 ht.1 (congrArg Prod.fst ht.2.2.1) rfl rfl rfl (by decide) (by decide) (Nat.le_of_ble_eq_true rfl) (by decide) (by decide) (fun r h2 hq => ?_)
  obtain ⟨rfl, rfl⟩ := hq
  try simp only [Option.toList, List.nil_append]
  refine z_aload_n (i := 0) dX8_feed_8 rfl rfl ?_
  refine z_gR zf8_49.g dX8_feed_9 hqa hqk hq8 ?_
  refine z_lload_n (i := 3) dX8_feed_12 rfl rfl ?_
  refine z_callV (st := []) (mc2 := 0) (ms2 := 0) zi8_121 zv_yX5_addBytes (c5_addBytes n K _ L R t s b ht (ktp_d ok a 8)) dX8_feed_13 ht.1 (congrArg Prod.fst ht.2.2.1) rfl rfl rfl (by decide) (by decide) (Nat.le_of_ble_eq_true rfl) (by decide) (by decide) (fun r h2 hq => ?_)
  obtain ⟨rfl, rfl⟩ := hq
  try simp only [Option.toList, List.nil_append]
  refine z_aload_n (i := 0) dX8_feed_16 rfl rfl ?_
  refine z_gR zf8_49.g dX8_feed_17 hqa hqk hq8 ?_
  refine z_lload dX8_feed_20 rfl ?_
  refine z_callV (st := []) (mc2 := 0) (ms2 := 0) zi8_121 zv_yX5_addBytes (c5_addBytes n K _ L R t s c ht (ktp_d (ktp_d ok a 8) b 8)) dX8_feed_22 ht.1 (congrArg Prod.fst ht.2.2.1) rfl rfl rfl (by decide) (by decide) (Nat.le_of_ble_eq_true rfl) (by decide) (by decide) (fun r h2 hq => ?_)
  obtain ⟨rfl, rfl⟩ := hq
  try simp only [Option.toList, List.nil_append]
  refine z_aload_n (i := 0) dX8_feed_25 rfl rfl ?_
  refine z_gR zf8_49.g dX8_feed_26 hqa hqk hq8 ?_
  refine z_gI zf8_125.g dX8_feed_29 ht.1 ht.2.2.1 ?_
  refine z_iret dX8_feed_32 rfl ?_
  subst hQ0
  exact ⟨rfl, rfl⟩
