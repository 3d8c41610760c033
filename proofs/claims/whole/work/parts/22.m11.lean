theorem zsw {x : Int32} (n : Nat) (hn : n < 1000) (h : ∀ k, k ≤ n → x ≠ nI k) : x.toInt < 0 ∨ (n : Int) < x.toInt := by
  rcases pk_ix x (n := n + 1) (by omega) with h1 | h1 | ⟨j, hj, e⟩
  · left
    have := Int32.lt_iff_toInt_lt.mp h1
    simpa using this
  · right
    have h2 := Int32.le_iff_toInt_le.mp h1
    rw [nI_toInt (by omega)] at h2
    omega
  · exact absurd e (h j (by omega))
theorem mip1 {x : Int32} {P j : Nat} (hx : x = nI P) (hP : P ≤ 6) (hj : j < P) : (if nI j < 0 then (0 : Int32) else if x ≤ nI j then 0 else 1) = 1 := by
  rw [if_neg (nI_pos (by omega)), hx, if_neg (fun h => by have := (zle (by omega) (by omega)).mp h; omega)]
theorem mip0 {x p : Int32} (h : p < 0 ∨ x ≤ p) : (if p < 0 then (0 : Int32) else if x ≤ p then 0 else 1) = 0 := by
  rcases h with h | h
  · rw [if_pos h]
  · by_cases h2 : p < 0
    · rw [if_pos h2]
    · rw [if_neg h2, if_pos h]
def mnth (I : Nat → Nat → Int32) (how : Int32) : Nat → Int32
  | 0 => 0
  | k + 1 => mnth I how k + (if I 31 k = how then 1 else 0)
def mnof (I : Nat → Nat → Int32) (c how : Int32) : Nat → Int32
  | 0 => 0
  | k + 1 => mnof I c how k + (if I 31 k = how ∧ mhc I k c = true then 1 else 0)
theorem mnth_cong {I J : Nat → Nat → Int32} (h : J 31 = I 31) (how : Int32) : ∀ k, mnth J how k = mnth I how k
  | 0 => rfl
  | k + 1 => by unfold mnth; rw [mnth_cong h how k, h]
theorem mnof_cong {I J : Nat → Nat → Int32} (h : J 31 = I 31) (h25 : J 25 = I 25) (h26 : J 26 = I 26) (c how : Int32) : ∀ k, mnof J c how k = mnof I c how k
  | 0 => rfl
  | k + 1 => by unfold mnof mhc; rw [mnof_cong h h25 h26 c how k, h, h25, h26]
abbrev x9_turn : ZX := (RX9, cX9_turn, 2, (some .int), "turn", 1, 40, false)
set_option maxHeartbeats 4000000 in
theorem c9_turn (I : Nat → Nat → Int32) (L : Nat → Nat → Int64) (P : Nat) (hP : P ≤ 6) (h24 : I 0 24 = nI P) (j : Nat) (hj : j < P) : Zm yX9_turn cX9_turn 2 (some .int) 1 40 0 0 [.ref 0, .int (nI j)] (mh I L) (mQ (some (.int (1 - I 17 j))) (zu (zu I 0 0 0) 17 j (1 - I 17 j)) L) := by
  refine Zm_of (lg := false) (by decide) (fun _ => by simp [Value.category]) (fun _ => Nat.le_of_ble_eq_true rfl) ?_
  show Zf x9_turn 0 0 0 (zargs [.ref 0, .int (nI j)]) [] (mh I L) _
  generalize hQ0 : (mQ (some (.int (1 - I 17 j))) (zu (zu I 0 0 0) 17 j (1 - I 17 j)) L : Option Value → ZH → Prop) = Q0
  refine z_aload_n (i := 0) dX9_turn_0 rfl rfl ?_
  refine z_iconst (v := 0) dX9_turn_1 (by decide) ?_
  refine z_putI zf9_137 dX9_turn_2 (fun h => by cases h) (by decide) rfl ?_
  refine z_aload_n (i := 0) dX9_turn_5 rfl rfl ?_
  refine z_iload_n (i := 1) dX9_turn_6 rfl rfl ?_
  refine z_callV (st := []) (mc2 := 0) (ms2 := 0) zi9_242 zv_yX9_isPitch (c9_isPitch _ _ _) dX9_turn_7 (show (0 : Nat) < 35 by decide) rfl rfl rfl rfl (by decide) (by decide) (Nat.le_of_ble_eq_true rfl) (by decide) (by decide) (fun r h2 hq => ?_)
  obtain ⟨rfl, rfl⟩ := hq
  rw [mip1 (x := zu I 0 0 0 0 24) h24 hP hj]
  refine z_if_ne 15 dX9_turn_10 (by decide) (fun _ => ?_) (fun c_1 => absurd c_1 (by decide))
  refine z_aload_n (i := 0) dX9_turn_15 rfl rfl ?_
  refine z_gR zf9_83.g dX9_turn_16 (by decide) rfl rfl ?_
  refine z_iload_n (i := 1) dX9_turn_19 rfl rfl ?_
  refine z_iconst (v := 1) dX9_turn_20 (by decide) ?_
  refine z_aload_n (i := 0) dX9_turn_21 rfl rfl ?_
  refine z_gR zf9_83.g dX9_turn_22 (by decide) rfl rfl ?_
  refine z_iload_n (i := 1) dX9_turn_25 rfl rfl ?_
  refine z_iald dX9_turn_26 (by decide) rfl (zvin (by omega) (by omega)) ?_
  refine z_isub dX9_turn_27 ?_
  refine z_iast dX9_turn_28 (by decide) rfl (zvin (by omega) (by omega)) ?_
  refine z_aload_n (i := 0) dX9_turn_29 rfl rfl ?_
  refine z_gR zf9_83.g dX9_turn_30 (by decide) rfl rfl ?_
  refine z_iload_n (i := 1) dX9_turn_33 rfl rfl ?_
  refine z_iald dX9_turn_34 (by decide) rfl (zvin (by omega) (by omega)) ?_
  refine z_iret dX9_turn_35 rfl ?_
  subst hQ0
  simp only [zcl (show j ≤ 100000 by omega)]
  exact ⟨by simp [zu_apply], rfl⟩
set_option maxHeartbeats 4000000 in
theorem c9_turn0 (I : Nat → Nat → Int32) (L : Nat → Nat → Int64) (P : Nat) (hP : P ≤ 6) (h24 : I 0 24 = nI P) (p : Int32) (hp : p < 0 ∨ nI P ≤ p) : Zm yX9_turn cX9_turn 2 (some .int) 1 40 0 0 [.ref 0, .int p] (mh I L) (mQ (some (.int (-1))) (zu I 0 0 0) L) := by
  refine Zm_of (lg := false) (by decide) (fun _ => by simp [Value.category]) (fun _ => Nat.le_of_ble_eq_true rfl) ?_
  show Zf x9_turn 0 0 0 (zargs [.ref 0, .int p]) [] (mh I L) _
  generalize hQ0 : (mQ (some (.int (-1))) (zu I 0 0 0) L : Option Value → ZH → Prop) = Q0
  refine z_aload_n (i := 0) dX9_turn_0 rfl rfl ?_
  refine z_iconst (v := 0) dX9_turn_1 (by decide) ?_
  refine z_putI zf9_137 dX9_turn_2 (fun h => by cases h) (by decide) rfl ?_
  refine z_aload_n (i := 0) dX9_turn_5 rfl rfl ?_
  refine z_iload_n (i := 1) dX9_turn_6 rfl rfl ?_
  refine z_callV (st := []) (mc2 := 0) (ms2 := 0) zi9_242 zv_yX9_isPitch (c9_isPitch _ _ _) dX9_turn_7 (show (0 : Nat) < 35 by decide) rfl rfl rfl rfl (by decide) (by decide) (Nat.le_of_ble_eq_true rfl) (by decide) (by decide) (fun r h2 hq => ?_)
  obtain ⟨rfl, rfl⟩ := hq
  rw [mip0 (x := zu I 0 0 0 0 24) (by rw [show zu I 0 0 0 0 24 = nI P from h24]; exact hp)]
  refine z_if_ne 15 dX9_turn_10 (by decide) (fun c_1 => absurd c_1 (by decide)) (fun _ => ?_)
  refine z_iconst (v := (-1)) dX9_turn_13 (by decide) ?_
  refine z_iret dX9_turn_14 rfl ?_
  subst hQ0
  exact ⟨rfl, rfl⟩
abbrev x9_field : ZX := (RX9, cX9_field, 3, (some .int), "field", 1, 40, false)
set_option maxHeartbeats 4000000 in
theorem c9_field (I : Nat → Nat → Int32) (L : Nat → Nat → Int64) (P : Nat) (hP : P ≤ 6) (h24 : I 0 24 = nI P) (j : Nat) (hj : j < P) (what : Int32) : Zm yX9_field cX9_field 3 (some .int) 1 40 0 0 [.ref 0, .int (nI j), .int what] (mh I L) (mQ (some (.int (if what = 0 then I 17 j else if what = 1 then mleast (fun k => I 18 (24 * j + k)) 24 else if what = 2 then msum (fun k => I 18 (24 * j + k)) 24 / 24 else if what = 3 then I 22 j else if what = 4 then I 24 j else if what = 5 then I 20 j else -1))) (zu I 0 0 0) L) := by
  refine Zm_of (lg := false) (by decide) (fun _ => by simp [Value.category]) (fun _ => Nat.le_of_ble_eq_true rfl) ?_
  show Zf x9_field 0 0 0 (zargs [.ref 0, .int (nI j), .int what]) [] (mh I L) _
  generalize hQ0 : (mQ (some (.int (if what = 0 then I 17 j else if what = 1 then mleast (fun k => I 18 (24 * j + k)) 24 else if what = 2 then msum (fun k => I 18 (24 * j + k)) 24 / 24 else if what = 3 then I 22 j else if what = 4 then I 24 j else if what = 5 then I 20 j else -1))) (zu I 0 0 0) L : Option Value → ZH → Prop) = Q0
  refine z_aload_n (i := 0) dX9_field_0 rfl rfl ?_
  refine z_iconst (v := 0) dX9_field_1 (by decide) ?_
  refine z_putI zf9_137 dX9_field_2 (fun h => by cases h) (by decide) rfl ?_
  refine z_aload_n (i := 0) dX9_field_5 rfl rfl ?_
  refine z_iload_n (i := 1) dX9_field_6 rfl rfl ?_
  refine z_callV (st := []) (mc2 := 0) (ms2 := 0) zi9_242 zv_yX9_isPitch (c9_isPitch _ _ _) dX9_field_7 (show (0 : Nat) < 35 by decide) rfl rfl rfl rfl (by decide) (by decide) (Nat.le_of_ble_eq_true rfl) (by decide) (by decide) (fun r h2 hq => ?_)
  obtain ⟨rfl, rfl⟩ := hq
  rw [mip1 (x := zu I 0 0 0 0 24) h24 hP hj]
  refine z_if_ne 15 dX9_field_10 (by decide) (fun _ => ?_) (fun c_1 => absurd c_1 (by decide))
  refine z_iload_n (i := 2) dX9_field_15 rfl rfl ?_
  by_cases hs0 : what = 0
  · subst hs0
    refine z_tableIn (off := 40) 56 dX9_field_16 (by decide) (by decide) (by decide) (by decide) ?_
    refine z_aload_n (i := 0) dX9_field_56 rfl rfl ?_
    refine z_gR zf9_83.g dX9_field_57 (by decide) rfl rfl ?_
    refine z_iload_n (i := 1) dX9_field_60 rfl rfl ?_
    refine z_iald dX9_field_61 (by decide) rfl (zvin (by omega) (by omega)) ?_
    refine z_iret dX9_field_62 rfl ?_
    subst hQ0
    rw [zcl (show j ≤ 100000 by omega)]
    exact ⟨rfl, rfl⟩
  by_cases hs1 : what = 1
  · subst hs1
    refine z_tableIn (off := 47) 63 dX9_field_16 (by decide) (by decide) (by decide) (by decide) ?_
    refine z_aload_n (i := 0) dX9_field_63 rfl rfl ?_
    refine z_gR zf9_86.g dX9_field_64 (by decide) rfl rfl ?_
    refine z_iload_n (i := 1) dX9_field_67 rfl rfl ?_
    refine z_callS (st := []) (mc2 := 0) (ms2 := 0) zi9_285 zs_yX9_leastOf (c9_leastOf _ L 18 j (by decide) rfl (by omega)) dX9_field_68 rfl rfl (by decide) (by decide) (Nat.le_of_ble_eq_true rfl) (by decide) (by decide) (fun r h2 hq => ?_)
    obtain ⟨rfl, rfl⟩ := hq
    refine z_iret dX9_field_71 rfl ?_
    subst hQ0
    exact ⟨by rw [if_neg (by decide), if_pos rfl]; rfl, rfl⟩
  by_cases hs2 : what = 2
  · subst hs2
    refine z_tableIn (off := 56) 72 dX9_field_16 (by decide) (by decide) (by decide) (by decide) ?_
    refine z_aload_n (i := 0) dX9_field_72 rfl rfl ?_
    refine z_gR zf9_86.g dX9_field_73 (by decide) rfl rfl ?_
    refine z_iload_n (i := 1) dX9_field_76 rfl rfl ?_
    refine z_callS (st := []) (mc2 := 0) (ms2 := 0) zi9_289 zs_yX9_meanOf (c9_meanOf _ L 18 j (by decide) rfl (by omega)) dX9_field_77 rfl rfl (by decide) (by decide) (Nat.le_of_ble_eq_true rfl) (by decide) (by decide) (fun r h2 hq => ?_)
    obtain ⟨rfl, rfl⟩ := hq
    refine z_iret dX9_field_80 rfl ?_
    subst hQ0
    exact ⟨by rw [if_neg (by decide), if_neg (by decide), if_pos rfl]; rfl, rfl⟩
  by_cases hs3 : what = 3
  · subst hs3
    refine z_tableIn (off := 65) 81 dX9_field_16 (by decide) (by decide) (by decide) (by decide) ?_
    refine z_aload_n (i := 0) dX9_field_81 rfl rfl ?_
    refine z_gR zf9_98.g dX9_field_82 (by decide) rfl rfl ?_
    refine z_iload_n (i := 1) dX9_field_85 rfl rfl ?_
    refine z_iald dX9_field_86 (by decide) rfl (zvin (by omega) (by omega)) ?_
    refine z_iret dX9_field_87 rfl ?_
    subst hQ0
    rw [zcl (show j ≤ 100000 by omega)]
    exact ⟨rfl, rfl⟩
  by_cases hs4 : what = 4
  · subst hs4
    refine z_tableIn (off := 72) 88 dX9_field_16 (by decide) (by decide) (by decide) (by decide) ?_
    refine z_aload_n (i := 0) dX9_field_88 rfl rfl ?_
    refine z_gR zf9_104.g dX9_field_89 (by decide) rfl rfl ?_
    refine z_iload_n (i := 1) dX9_field_92 rfl rfl ?_
    refine z_iald dX9_field_93 (by decide) rfl (zvin (by omega) (by omega)) ?_
    refine z_iret dX9_field_94 rfl ?_
    subst hQ0
    rw [zcl (show j ≤ 100000 by omega)]
    exact ⟨rfl, rfl⟩
  by_cases hs5 : what = 5
  · subst hs5
    refine z_tableIn (off := 79) 95 dX9_field_16 (by decide) (by decide) (by decide) (by decide) ?_
    refine z_aload_n (i := 0) dX9_field_95 rfl rfl ?_
    refine z_gR zf9_92.g dX9_field_96 (by decide) rfl rfl ?_
    refine z_iload_n (i := 1) dX9_field_99 rfl rfl ?_
    refine z_iald dX9_field_100 (by decide) rfl (zvin (by omega) (by omega)) ?_
    refine z_iret dX9_field_101 rfl ?_
    subst hQ0
    rw [zcl (show j ≤ 100000 by omega)]
    exact ⟨rfl, rfl⟩
  refine z_tableOut 102 dX9_field_16 (zsw 5 (by decide) (fun k hk => by rcases (show k = 0 ∨ k = 1 ∨ k = 2 ∨ k = 3 ∨ k = 4 ∨ k = 5 by omega) with rfl | rfl | rfl | rfl | rfl | rfl <;> assumption)) (by decide) ?_
  refine z_iconst (v := (-1)) dX9_field_102 (by decide) ?_
  refine z_iret dX9_field_103 rfl ?_
  subst hQ0
  exact ⟨by rw [if_neg hs0, if_neg hs1, if_neg hs2, if_neg hs3, if_neg hs4, if_neg hs5], rfl⟩
set_option maxHeartbeats 4000000 in
theorem c9_field0 (I : Nat → Nat → Int32) (L : Nat → Nat → Int64) (P : Nat) (hP : P ≤ 6) (h24 : I 0 24 = nI P) (p : Int32) (hp : p < 0 ∨ nI P ≤ p) (what : Int32) : Zm yX9_field cX9_field 3 (some .int) 1 40 0 0 [.ref 0, .int p, .int what] (mh I L) (mQ (some (.int (-1))) (zu I 0 0 0) L) := by
  refine Zm_of (lg := false) (by decide) (fun _ => by simp [Value.category]) (fun _ => Nat.le_of_ble_eq_true rfl) ?_
  show Zf x9_field 0 0 0 (zargs [.ref 0, .int p, .int what]) [] (mh I L) _
  generalize hQ0 : (mQ (some (.int (-1))) (zu I 0 0 0) L : Option Value → ZH → Prop) = Q0
  refine z_aload_n (i := 0) dX9_field_0 rfl rfl ?_
  refine z_iconst (v := 0) dX9_field_1 (by decide) ?_
  refine z_putI zf9_137 dX9_field_2 (fun h => by cases h) (by decide) rfl ?_
  refine z_aload_n (i := 0) dX9_field_5 rfl rfl ?_
  refine z_iload_n (i := 1) dX9_field_6 rfl rfl ?_
  refine z_callV (st := []) (mc2 := 0) (ms2 := 0) zi9_242 zv_yX9_isPitch (c9_isPitch _ _ _) dX9_field_7 (show (0 : Nat) < 35 by decide) rfl rfl rfl rfl (by decide) (by decide) (Nat.le_of_ble_eq_true rfl) (by decide) (by decide) (fun r h2 hq => ?_)
  obtain ⟨rfl, rfl⟩ := hq
  rw [mip0 (x := zu I 0 0 0 0 24) (by rw [show zu I 0 0 0 0 24 = nI P from h24]; exact hp)]
  refine z_if_ne 15 dX9_field_10 (by decide) (fun c_1 => absurd c_1 (by decide)) (fun _ => ?_)
  refine z_iconst (v := (-1)) dX9_field_13 (by decide) ?_
  refine z_iret dX9_field_14 rfl ?_
  subst hQ0
  exact ⟨rfl, rfl⟩
abbrev x9_would : ZX := (RX9, cX9_would, 3, (some .int), "would", 1, 40, false)
set_option maxHeartbeats 4000000 in
theorem c9_would (I : Nat → Nat → Int32) (L : Nat → Nat → Int64) (P : Nat) (hP : P ≤ 6) (h24 : I 0 24 = nI P) (j : Nat) (hj : j < P) (what : Int32) : Zm yX9_would cX9_would 3 (some .int) 1 40 0 0 [.ref 0, .int (nI j), .int what] (mh I L) (mQ (some (.int (if what = 0 then mleast (fun k => I 19 (24 * j + k)) 24 else if what = 1 then msum (fun k => I 19 (24 * j + k)) 24 / 24 else if what = 2 then I 21 j else -1))) (zu I 0 0 0) L) := by
  refine Zm_of (lg := false) (by decide) (fun _ => by simp [Value.category]) (fun _ => Nat.le_of_ble_eq_true rfl) ?_
  show Zf x9_would 0 0 0 (zargs [.ref 0, .int (nI j), .int what]) [] (mh I L) _
  generalize hQ0 : (mQ (some (.int (if what = 0 then mleast (fun k => I 19 (24 * j + k)) 24 else if what = 1 then msum (fun k => I 19 (24 * j + k)) 24 / 24 else if what = 2 then I 21 j else -1))) (zu I 0 0 0) L : Option Value → ZH → Prop) = Q0
  refine z_aload_n (i := 0) dX9_would_0 rfl rfl ?_
  refine z_iconst (v := 0) dX9_would_1 (by decide) ?_
  refine z_putI zf9_137 dX9_would_2 (fun h => by cases h) (by decide) rfl ?_
  refine z_aload_n (i := 0) dX9_would_5 rfl rfl ?_
  refine z_iload_n (i := 1) dX9_would_6 rfl rfl ?_
  refine z_callV (st := []) (mc2 := 0) (ms2 := 0) zi9_242 zv_yX9_isPitch (c9_isPitch _ _ _) dX9_would_7 (show (0 : Nat) < 35 by decide) rfl rfl rfl rfl (by decide) (by decide) (Nat.le_of_ble_eq_true rfl) (by decide) (by decide) (fun r h2 hq => ?_)
  obtain ⟨rfl, rfl⟩ := hq
  rw [mip1 (x := zu I 0 0 0 0 24) h24 hP hj]
  refine z_if_ne 15 dX9_would_10 (by decide) (fun _ => ?_) (fun c_1 => absurd c_1 (by decide))
  refine z_iload_n (i := 2) dX9_would_15 rfl rfl ?_
  refine z_if_ne 30 dX9_would_16 (by decide) (fun c_2 => ?_) (fun c_2 => ?_)
  · skip
    refine z_iload_n (i := 2) dX9_would_30 rfl rfl ?_
    refine z_iconst (v := 1) dX9_would_31 (by decide) ?_
    refine z_icmp_ne 46 dX9_would_32 (by decide) (fun c_3 => ?_) (fun c_3 => ?_)
    · skip
      refine z_iload_n (i := 2) dX9_would_46 rfl rfl ?_
      refine z_iconst (v := 2) dX9_would_47 (by decide) ?_
      refine z_icmp_ne 60 dX9_would_48 (by decide) (fun c_4 => ?_) (fun c_4 => ?_)
      · skip
        refine z_iconst (v := (-1)) dX9_would_60 (by decide) ?_
        refine z_iret dX9_would_61 rfl ?_
        subst hQ0
        exact ⟨by simp only [*, if_true, if_false]; try rfl, rfl⟩
      · skip
        refine z_aload_n (i := 0) dX9_would_51 rfl rfl ?_
        refine z_gR zf9_95.g dX9_would_52 (by decide) rfl rfl ?_
        refine z_iload_n (i := 1) dX9_would_55 rfl rfl ?_
        refine z_iald dX9_would_56 (by decide) rfl (zvin (by omega) (by omega)) ?_
        rw [zcl (show j ≤ 100000 by omega)]
        refine z_goto 61 dX9_would_57 (by decide) ?_
        refine z_iret dX9_would_61 rfl ?_
        subst hQ0
        exact ⟨by simp only [*, if_true, if_false]; try rfl, rfl⟩
    · skip
      refine z_aload_n (i := 0) dX9_would_35 rfl rfl ?_
      refine z_gR zf9_89.g dX9_would_36 (by decide) rfl rfl ?_
      refine z_iload_n (i := 1) dX9_would_39 rfl rfl ?_
      refine z_callS (st := []) (mc2 := 0) (ms2 := 0) zi9_289 zs_yX9_meanOf (c9_meanOf _ L 19 j (by decide) rfl (by omega)) dX9_would_40 rfl rfl (by decide) (by decide) (Nat.le_of_ble_eq_true rfl) (by decide) (by decide) (fun r h2 hq => ?_)
      obtain ⟨rfl, rfl⟩ := hq
      refine z_goto 61 dX9_would_43 (by decide) ?_
      refine z_iret dX9_would_61 rfl ?_
      subst hQ0
      exact ⟨by simp only [*, if_true, if_false]; try rfl, rfl⟩
  · skip
    refine z_aload_n (i := 0) dX9_would_19 rfl rfl ?_
    refine z_gR zf9_89.g dX9_would_20 (by decide) rfl rfl ?_
    refine z_iload_n (i := 1) dX9_would_23 rfl rfl ?_
    refine z_callS (st := []) (mc2 := 0) (ms2 := 0) zi9_285 zs_yX9_leastOf (c9_leastOf _ L 19 j (by decide) rfl (by omega)) dX9_would_24 rfl rfl (by decide) (by decide) (Nat.le_of_ble_eq_true rfl) (by decide) (by decide) (fun r h2 hq => ?_)
    obtain ⟨rfl, rfl⟩ := hq
    refine z_goto 61 dX9_would_27 (by decide) ?_
    refine z_iret dX9_would_61 rfl ?_
    subst hQ0
    exact ⟨by simp only [*, if_true, if_false]; try rfl, rfl⟩
set_option maxHeartbeats 4000000 in
theorem c9_would0 (I : Nat → Nat → Int32) (L : Nat → Nat → Int64) (P : Nat) (hP : P ≤ 6) (h24 : I 0 24 = nI P) (p : Int32) (hp : p < 0 ∨ nI P ≤ p) (what : Int32) : Zm yX9_would cX9_would 3 (some .int) 1 40 0 0 [.ref 0, .int p, .int what] (mh I L) (mQ (some (.int (-1))) (zu I 0 0 0) L) := by
  refine Zm_of (lg := false) (by decide) (fun _ => by simp [Value.category]) (fun _ => Nat.le_of_ble_eq_true rfl) ?_
  show Zf x9_would 0 0 0 (zargs [.ref 0, .int p, .int what]) [] (mh I L) _
  generalize hQ0 : (mQ (some (.int (-1))) (zu I 0 0 0) L : Option Value → ZH → Prop) = Q0
  refine z_aload_n (i := 0) dX9_would_0 rfl rfl ?_
  refine z_iconst (v := 0) dX9_would_1 (by decide) ?_
  refine z_putI zf9_137 dX9_would_2 (fun h => by cases h) (by decide) rfl ?_
  refine z_aload_n (i := 0) dX9_would_5 rfl rfl ?_
  refine z_iload_n (i := 1) dX9_would_6 rfl rfl ?_
  refine z_callV (st := []) (mc2 := 0) (ms2 := 0) zi9_242 zv_yX9_isPitch (c9_isPitch _ _ _) dX9_would_7 (show (0 : Nat) < 35 by decide) rfl rfl rfl rfl (by decide) (by decide) (Nat.le_of_ble_eq_true rfl) (by decide) (by decide) (fun r h2 hq => ?_)
  obtain ⟨rfl, rfl⟩ := hq
  rw [mip0 (x := zu I 0 0 0 0 24) (by rw [show zu I 0 0 0 0 24 = nI P from h24]; exact hp)]
  refine z_if_ne 15 dX9_would_10 (by decide) (fun c_1 => absurd c_1 (by decide)) (fun _ => ?_)
  refine z_iconst (v := (-1)) dX9_would_13 (by decide) ?_
  refine z_iret dX9_would_14 rfl ?_
  subst hQ0
  exact ⟨rfl, rfl⟩
abbrev x9_gamesThat : ZX := (RX9, cX9_gamesThat, 4, (some .int), "gamesThat", 0, 0, false)
set_option maxHeartbeats 4000000 in
theorem l9_gamesThat {I : Nat → Nat → Int32} {L : Nat → Nat → Int64} {Q : Option Value → ZH → Prop} {G : Nat} {how : Int32} (hG : G ≤ 60) (h35 : I 0 35 = nI G) (hQ : Q (some (.int (mnth I how G))) (mh I L)) : ∀ (m j : Nat), G - j < m → j ≤ G → ∀ ls : Nat → Option Value, ls 0 = some (.ref 0) → ls 1 = some (.int how) → ls 2 = some (.int (mnth I how j)) → ls 3 = some (.int (nI j)) → Zf x9_gamesThat 0 0 4 ls [] (mh I L) Q := by
  intro m
  induction m with
  | zero => intro j h; omega
  | succ m ih =>
  intro j hm hj ls hl0 hl1 hl2 hl3
  refine z_iload_n (i := 3) dX9_gamesThat_4 rfl hl3 ?_
  refine z_aload_n (i := 0) dX9_gamesThat_5 rfl hl0 ?_
  refine z_gI zf9_253.g dX9_gamesThat_6 (by decide) rfl ?_
  rw [h35]
  refine z_icmp_ge 36 dX9_gamesThat_9 (by decide) (fun c_1 => ?_) (fun c_1 => ?_)
  · skip
    have h1 := (zle (by omega) (by omega)).mp c_1
    have h2 : j = G := by omega
    subst h2
    refine z_iload_n (i := 2) dX9_gamesThat_36 rfl hl2 ?_
    refine z_iret dX9_gamesThat_37 rfl ?_
    exact hQ
  · skip
    have h1 : ¬ G ≤ j := fun q => c_1 ((zle (by omega) (by omega)).mpr q)
    refine z_iload_n (i := 2) dX9_gamesThat_12 rfl hl2 ?_
    refine z_aload_n (i := 0) dX9_gamesThat_13 rfl hl0 ?_
    refine z_gR zf9_125.g dX9_gamesThat_14 (by decide) rfl rfl ?_
    refine z_iload_n (i := 3) dX9_gamesThat_17 rfl hl3 ?_
    refine z_iald dX9_gamesThat_18 (by decide) rfl (zvin (by omega) (by omega)) ?_
    rw [zcl (by omega)]
    refine z_iload_n (i := 1) dX9_gamesThat_19 rfl hl1 ?_
    refine z_icmp_ne 27 dX9_gamesThat_20 (by decide) (fun c_2 => ?_) (fun c_2 => ?_)
    · skip
      refine z_iconst (v := 0) dX9_gamesThat_27 (by decide) ?_
      refine z_iadd dX9_gamesThat_28 ?_
      refine z_istore_n (i := 2) dX9_gamesThat_29 rfl (by decide) rfl ?_
      refine z_iinc dX9_gamesThat_30 hl3 rfl ?_
      refine z_goto 4 dX9_gamesThat_33 (by decide) ?_
      rw [zinc]
      exact ih (j + 1) (by omega) (by omega) _ hl0 hl1 (by show some (Value.int (mnth I how j + 0)) = some (Value.int (mnth I how j + (if I 31 j = how then 1 else 0))); rw [if_neg c_2]) rfl
    · skip
      refine z_iconst (v := 1) dX9_gamesThat_23 (by decide) ?_
      refine z_goto 28 dX9_gamesThat_24 (by decide) ?_
      refine z_iadd dX9_gamesThat_28 ?_
      refine z_istore_n (i := 2) dX9_gamesThat_29 rfl (by decide) rfl ?_
      refine z_iinc dX9_gamesThat_30 hl3 rfl ?_
      refine z_goto 4 dX9_gamesThat_33 (by decide) ?_
      rw [zinc]
      exact ih (j + 1) (by omega) (by omega) _ hl0 hl1 (by show some (Value.int (mnth I how j + 1)) = some (Value.int (mnth I how j + (if I 31 j = how then 1 else 0))); rw [if_pos c_2]) rfl
set_option maxHeartbeats 4000000 in
theorem c9_gamesThat (I : Nat → Nat → Int32) (L : Nat → Nat → Int64) (G : Nat) (how : Int32) (hG : G ≤ 60) (h35 : I 0 35 = nI G) : Zm yX9_gamesThat cX9_gamesThat 4 (some .int) 0 0 0 0 [.ref 0, .int how] (mh I L) (mQ (some (.int (mnth I how G))) I L) := by
  refine Zm_of (lg := false) (by decide) (fun _ => by simp [Value.category]) (fun _ => Nat.le_of_ble_eq_true rfl) ?_
  show Zf x9_gamesThat 0 0 0 (zargs [.ref 0, .int how]) [] (mh I L) _
  refine z_iconst (v := 0) dX9_gamesThat_0 (by decide) ?_
  refine z_istore_n (i := 2) dX9_gamesThat_1 rfl (by decide) rfl ?_
  refine z_iconst (v := 0) dX9_gamesThat_2 (by decide) ?_
  refine z_istore_n (i := 3) dX9_gamesThat_3 rfl (by decide) rfl ?_
  exact l9_gamesThat hG h35 ⟨rfl, rfl⟩ (G + 1) 0 (by omega) (by omega) _ rfl rfl rfl rfl
abbrev x9_gamesOf : ZX := (RX9, cX9_gamesOf, 5, (some .int), "gamesOf", 1, 40, false)
set_option maxHeartbeats 4000000 in
theorem l9_gamesOf {I : Nat → Nat → Int32} {L : Nat → Nat → Int64} {Q : Option Value → ZH → Prop} {G : Nat} {c how : Int32} (hG : G ≤ 60) (h35 : I 0 35 = nI G) (hQ : Q (some (.int (mnof I c how G))) (mh I L)) : ∀ (m j : Nat), G - j < m → j ≤ G → ∀ ls : Nat → Option Value, ls 0 = some (.ref 0) → ls 1 = some (.int c) → ls 2 = some (.int how) → ls 3 = some (.int (mnof I c how j)) → ls 4 = some (.int (nI j)) → Zf x9_gamesOf 0 0 5 ls [] (mh I L) Q := by
  intro m
  induction m with
  | zero => intro j h; omega
  | succ m ih =>
  intro j hm hj ls hl0 hl1 hl2 hl3 hl4
  refine z_iload dX9_gamesOf_5 hl4 ?_
  refine z_aload_n (i := 0) dX9_gamesOf_7 rfl hl0 ?_
  refine z_gI zf9_253.g dX9_gamesOf_8 (by decide) rfl ?_
  rw [h35]
  refine z_icmp_ge 49 dX9_gamesOf_11 (by decide) (fun c_1 => ?_) (fun c_1 => ?_)
  · skip
    have h1 := (zle (by omega) (by omega)).mp c_1
    have h2 : j = G := by omega
    subst h2
    refine z_iload_n (i := 3) dX9_gamesOf_49 rfl hl3 ?_
    refine z_iret dX9_gamesOf_50 rfl ?_
    exact hQ
  · skip
    have h1 : ¬ G ≤ j := fun q => c_1 ((zle (by omega) (by omega)).mpr q)
    refine z_iload_n (i := 3) dX9_gamesOf_14 rfl hl3 ?_
    refine z_aload_n (i := 0) dX9_gamesOf_15 rfl hl0 ?_
    refine z_gR zf9_125.g dX9_gamesOf_16 (by decide) rfl rfl ?_
    refine z_iload dX9_gamesOf_19 hl4 ?_
    refine z_iald dX9_gamesOf_21 (by decide) rfl (zvin (by omega) (by omega)) ?_
    rw [zcl (by omega)]
    refine z_iload_n (i := 2) dX9_gamesOf_22 rfl hl2 ?_
    refine z_icmp_ne 40 dX9_gamesOf_23 (by decide) (fun c_2 => ?_) (fun c_2 => ?_)
    · skip
      refine z_iconst (v := 0) dX9_gamesOf_40 (by decide) ?_
      refine z_iadd dX9_gamesOf_41 ?_
      refine z_istore_n (i := 3) dX9_gamesOf_42 rfl (by decide) rfl ?_
      refine z_iinc dX9_gamesOf_43 hl4 rfl ?_
      refine z_goto 5 dX9_gamesOf_46 (by decide) ?_
      rw [zinc]
      exact ih (j + 1) (by omega) (by omega) _ hl0 hl1 hl2 (by show some (Value.int (mnof I c how j + 0)) = some (Value.int (mnof I c how j + (if I 31 j = how ∧ mhc I j c = true then 1 else 0))); rw [if_neg (fun h => c_2 h.1)]) rfl
    · skip
      refine z_aload_n (i := 0) dX9_gamesOf_26 rfl hl0 ?_
      refine z_iload dX9_gamesOf_27 hl4 ?_
      refine z_iload_n (i := 1) dX9_gamesOf_29 rfl hl1 ?_
      refine z_callV (st := [_]) (mc2 := 0) (ms2 := 0) zi9_262 zv_yX9_hasClub (c9_hasClub _ _ _ _ (by omega)) dX9_gamesOf_30 (show (0 : Nat) < 35 by decide) rfl rfl rfl rfl (by decide) (by decide) (Nat.le_of_ble_eq_true rfl) (by decide) (by decide) (fun r h2 hq => ?_)
      obtain ⟨rfl, rfl⟩ := hq
      refine z_if_eq 40 dX9_gamesOf_33 (by decide) (fun c_3 => ?_) (fun c_3 => ?_)
      · skip
        refine z_iconst (v := 0) dX9_gamesOf_40 (by decide) ?_
        refine z_iadd dX9_gamesOf_41 ?_
        refine z_istore_n (i := 3) dX9_gamesOf_42 rfl (by decide) rfl ?_
        refine z_iinc dX9_gamesOf_43 hl4 rfl ?_
        refine z_goto 5 dX9_gamesOf_46 (by decide) ?_
        rw [zinc]
        exact ih (j + 1) (by omega) (by omega) _ hl0 hl1 hl2 (by show some (Value.int (mnof I c how j + 0)) = some (Value.int (mnof I c how j + (if I 31 j = how ∧ mhc I j c = true then 1 else 0))); rw [if_neg (fun h => by have := (zb_0 _).mp c_3; rw [h.2] at this; cases this)]) rfl
      · skip
        refine z_iconst (v := 1) dX9_gamesOf_36 (by decide) ?_
        refine z_goto 41 dX9_gamesOf_37 (by decide) ?_
        refine z_iadd dX9_gamesOf_41 ?_
        refine z_istore_n (i := 3) dX9_gamesOf_42 rfl (by decide) rfl ?_
        refine z_iinc dX9_gamesOf_43 hl4 rfl ?_
        refine z_goto 5 dX9_gamesOf_46 (by decide) ?_
        rw [zinc]
        exact ih (j + 1) (by omega) (by omega) _ hl0 hl1 hl2 (by show some (Value.int (mnof I c how j + 1)) = some (Value.int (mnof I c how j + (if I 31 j = how ∧ mhc I j c = true then 1 else 0))); rw [if_pos ⟨by assumption, (zb_n _).mp c_3⟩]) rfl
set_option maxHeartbeats 4000000 in
theorem c9_gamesOf (I : Nat → Nat → Int32) (L : Nat → Nat → Int64) (G : Nat) (c how : Int32) (hG : G ≤ 60) (h35 : I 0 35 = nI G) : Zm yX9_gamesOf cX9_gamesOf 5 (some .int) 1 40 0 0 [.ref 0, .int c, .int how] (mh I L) (mQ (some (.int (mnof I c how G))) I L) := by
  refine Zm_of (lg := false) (by decide) (fun _ => by simp [Value.category]) (fun _ => Nat.le_of_ble_eq_true rfl) ?_
  show Zf x9_gamesOf 0 0 0 (zargs [.ref 0, .int c, .int how]) [] (mh I L) _
  refine z_iconst (v := 0) dX9_gamesOf_0 (by decide) ?_
  refine z_istore_n (i := 3) dX9_gamesOf_1 rfl (by decide) rfl ?_
  refine z_iconst (v := 0) dX9_gamesOf_2 (by decide) ?_
  refine z_istore (i := 4) dX9_gamesOf_3 (by decide) rfl ?_
  exact l9_gamesOf hG h35 ⟨rfl, rfl⟩ (G + 1) 0 (by omega) (by omega) _ rfl rfl rfl rfl rfl
abbrev x9_club : ZX := (RX9, cX9_club, 3, (some .int), "club", 2, 80, false)
set_option maxHeartbeats 4000000 in
theorem c9_club (I : Nat → Nat → Int32) (L : Nat → Nat → Int64) (G : Nat) (hG : G ≤ 60) (h35 : I 0 35 = nI G) (c : Nat) (hc : c < 16) (what : Int32) : Zm yX9_club cX9_club 3 (some .int) 2 80 0 0 [.ref 0, .int (nI c), .int what] (mh I L) (mQ (some (.int (if what = 0 then mnof I (nI c) 2 G else if what = 1 then I 34 c else if what = 2 then mnof I (nI c) 3 G else -1))) (zu I 0 0 0) L) := by
  refine Zm_of (lg := false) (by decide) (fun _ => by simp [Value.category]) (fun _ => Nat.le_of_ble_eq_true rfl) ?_
  show Zf x9_club 0 0 0 (zargs [.ref 0, .int (nI c), .int what]) [] (mh I L) _
  generalize hQ0 : (mQ (some (.int (if what = 0 then mnof I (nI c) 2 G else if what = 1 then I 34 c else if what = 2 then mnof I (nI c) 3 G else -1))) (zu I 0 0 0) L : Option Value → ZH → Prop) = Q0
  refine z_aload_n (i := 0) dX9_club_0 rfl rfl ?_
  refine z_iconst (v := 0) dX9_club_1 (by decide) ?_
  refine z_putI zf9_137 dX9_club_2 (fun h => by cases h) (by decide) rfl ?_
  refine z_iload_n (i := 1) dX9_club_5 rfl rfl ?_
  refine z_if_lt 15 dX9_club_6 (by decide) (fun c_1 => absurd c_1 (nI_pos (by omega))) (fun _ => ?_)
  refine z_iload_n (i := 1) dX9_club_9 rfl rfl ?_
  refine z_bipush (v := 15) dX9_club_10 (by decide) ?_
  refine z_icmp_le 17 dX9_club_12 (by decide) (fun _ => ?_) (fun c_2 => absurd (show nI c ≤ nI 15 from (zle (by omega) (by omega)).mpr (by omega)) c_2)
  refine z_iload_n (i := 2) dX9_club_17 rfl rfl ?_
  refine z_if_ne 30 dX9_club_18 (by decide) (fun c_3 => ?_) (fun c_3 => ?_)
  · skip
    refine z_iload_n (i := 2) dX9_club_30 rfl rfl ?_
    refine z_iconst (v := 1) dX9_club_31 (by decide) ?_
    refine z_icmp_ne 44 dX9_club_32 (by decide) (fun c_4 => ?_) (fun c_4 => ?_)
    · skip
      refine z_iload_n (i := 2) dX9_club_44 rfl rfl ?_
      refine z_iconst (v := 2) dX9_club_45 (by decide) ?_
      refine z_icmp_ne 58 dX9_club_46 (by decide) (fun c_5 => ?_) (fun c_5 => ?_)
      · skip
        refine z_iconst (v := (-1)) dX9_club_58 (by decide) ?_
        refine z_iret dX9_club_59 rfl ?_
        subst hQ0
        exact ⟨by first | (rw [mnof_cong (J := zu I 0 0 0) (I := I) rfl rfl rfl]; simp [*]; done) | (simp [*]; done) | (simp [*]; rfl), rfl⟩
      · skip
        refine z_aload_n (i := 0) dX9_club_49 rfl rfl ?_
        refine z_iload_n (i := 1) dX9_club_50 rfl rfl ?_
        refine z_iconst (v := 3) dX9_club_51 (by decide) ?_
        refine z_callV (st := []) (mc2 := 0) (ms2 := 0) zi9_310 zv_yX9_gamesOf (c9_gamesOf (zu I 0 0 0) L G _ _ hG h35) dX9_club_52 (show (0 : Nat) < 35 by decide) rfl rfl rfl rfl (by decide) (by decide) (Nat.le_of_ble_eq_true rfl) (by decide) (by decide) (fun r h2 hq => ?_)
        obtain ⟨rfl, rfl⟩ := hq
        refine z_goto 59 dX9_club_55 (by decide) ?_
        refine z_iret dX9_club_59 rfl ?_
        subst hQ0
        exact ⟨by first | (rw [mnof_cong (J := zu I 0 0 0) (I := I) rfl rfl rfl]; simp [*]; done) | (simp [*]; done) | (simp [*]; rfl), rfl⟩
    · skip
      refine z_aload_n (i := 0) dX9_club_35 rfl rfl ?_
      refine z_gR zf9_134.g dX9_club_36 (by decide) rfl rfl ?_
      refine z_iload_n (i := 1) dX9_club_39 rfl rfl ?_
      refine z_iald dX9_club_40 (by decide) rfl (zvin (by omega) (by omega)) ?_
      rw [zcl (by omega)]
      refine z_goto 59 dX9_club_41 (by decide) ?_
      refine z_iret dX9_club_59 rfl ?_
      subst hQ0
      exact ⟨by first | (rw [mnof_cong (J := zu I 0 0 0) (I := I) rfl rfl rfl]; simp [*]; done) | (simp [*]; done) | (simp [*]; rfl), rfl⟩
  · skip
    refine z_aload_n (i := 0) dX9_club_21 rfl rfl ?_
    refine z_iload_n (i := 1) dX9_club_22 rfl rfl ?_
    refine z_iconst (v := 2) dX9_club_23 (by decide) ?_
    refine z_callV (st := []) (mc2 := 0) (ms2 := 0) zi9_310 zv_yX9_gamesOf (c9_gamesOf (zu I 0 0 0) L G _ _ hG h35) dX9_club_24 (show (0 : Nat) < 35 by decide) rfl rfl rfl rfl (by decide) (by decide) (Nat.le_of_ble_eq_true rfl) (by decide) (by decide) (fun r h2 hq => ?_)
    obtain ⟨rfl, rfl⟩ := hq
    refine z_goto 59 dX9_club_27 (by decide) ?_
    refine z_iret dX9_club_59 rfl ?_
    subst hQ0
    exact ⟨by first | (rw [mnof_cong (J := zu I 0 0 0) (I := I) rfl rfl rfl]; simp [*]; done) | (simp [*]; done) | (simp [*]; rfl), rfl⟩
set_option maxHeartbeats 4000000 in
theorem c9_club0 (I : Nat → Nat → Int32) (L : Nat → Nat → Int64) (c what : Int32) (hc : c < 0 ∨ nI 16 ≤ c) : Zm yX9_club cX9_club 3 (some .int) 2 80 0 0 [.ref 0, .int c, .int what] (mh I L) (mQ (some (.int (-1))) (zu I 0 0 0) L) := by
  refine Zm_of (lg := false) (by decide) (fun _ => by simp [Value.category]) (fun _ => Nat.le_of_ble_eq_true rfl) ?_
  show Zf x9_club 0 0 0 (zargs [.ref 0, .int c, .int what]) [] (mh I L) _
  generalize hQ0 : (mQ (some (.int (-1))) (zu I 0 0 0) L : Option Value → ZH → Prop) = Q0
  refine z_aload_n (i := 0) dX9_club_0 rfl rfl ?_
  refine z_iconst (v := 0) dX9_club_1 (by decide) ?_
  refine z_putI zf9_137 dX9_club_2 (fun h => by cases h) (by decide) rfl ?_
  refine z_iload_n (i := 1) dX9_club_5 rfl rfl ?_
  refine z_if_lt 15 dX9_club_6 (by decide) (fun c_1 => ?_) (fun c_1 => ?_)
  · skip
    refine z_iconst (v := (-1)) dX9_club_15 (by decide) ?_
    refine z_iret dX9_club_16 rfl ?_
    subst hQ0
    exact ⟨rfl, rfl⟩
  · skip
    refine z_iload_n (i := 1) dX9_club_9 rfl rfl ?_
    refine z_bipush (v := 15) dX9_club_10 (by decide) ?_
    refine z_icmp_le 17 dX9_club_12 (by decide) (fun c_2 => ?_) (fun c_2 => ?_)
    · skip
      subst hQ0
      exfalso
      rcases hc with hc | hc
      · exact c_1 hc
      · have h1 := Int32.le_iff_toInt_le.mp hc
        have h2 := Int32.le_iff_toInt_le.mp c_2
        have e1 : (nI 16).toInt = 16 := by decide
        have e2 : (15 : Int32).toInt = 15 := by decide
        omega
    · skip
      refine z_iconst (v := (-1)) dX9_club_15 (by decide) ?_
      refine z_iret dX9_club_16 rfl ?_
      subst hQ0
      exact ⟨rfl, rfl⟩
def mshs (I : Nat → Nat → Int32) : Nat → Int32
  | 0 => 0
  | k + 1 => mshs I k + I 24 k
theorem mshs_cong {I J : Nat → Nat → Int32} (h : J 24 = I 24) : ∀ k, mshs J k = mshs I k
  | 0 => rfl
  | k + 1 => by unfold mshs; rw [mshs_cong h k, h]
abbrev x9_count : ZX := (RX9, cX9_count, 4, (some .int), "count", 1, 40, false)
set_option maxHeartbeats 4000000 in
theorem l9_count {I : Nat → Nat → Int32} {L : Nat → Nat → Int64} {Q : Option Value → ZH → Prop} {P : Nat} {what : Int32} (hP : P ≤ 6) (h24 : I 0 24 = nI P) (hx : ∀ ls : Nat → Option Value, ls 0 = some (.ref 0) → ls 1 = some (.int what) → ls 2 = some (.int (mshs I P)) → Zf x9_count 0 0 32 ls [] (mh I L) Q) : ∀ (m j : Nat), P - j < m → j ≤ P → ∀ ls : Nat → Option Value, ls 0 = some (.ref 0) → ls 1 = some (.int what) → ls 2 = some (.int (mshs I j)) → ls 3 = some (.int (nI j)) → Zf x9_count 0 0 9 ls [] (mh I L) Q := by
  intro m
  induction m with
  | zero => intro j h; omega
  | succ m ih =>
  intro j hm hj ls hl0 hl1 hl2 hl3
  refine z_iload_n (i := 3) dX9_count_9 rfl hl3 ?_
  refine z_aload_n (i := 0) dX9_count_10 rfl hl0 ?_
  refine z_gI zf9_236.g dX9_count_11 (by decide) rfl ?_
  rw [h24]
  refine z_icmp_ge 32 dX9_count_14 (by decide) (fun c_1 => ?_) (fun c_1 => ?_)
  · skip
    have h1 := (zle (by omega) (by omega)).mp c_1
    have h2 : j = P := by omega
    subst h2
    exact hx _ hl0 hl1 hl2
  · skip
    have h1 : ¬ P ≤ j := fun q => c_1 ((zle (by omega) (by omega)).mpr q)
    refine z_iload_n (i := 2) dX9_count_17 rfl hl2 ?_
    refine z_aload_n (i := 0) dX9_count_18 rfl hl0 ?_
    refine z_gR zf9_104.g dX9_count_19 (by decide) rfl rfl ?_
    refine z_iload_n (i := 3) dX9_count_22 rfl hl3 ?_
    refine z_iald dX9_count_23 (by decide) rfl (zvin (by omega) (by omega)) ?_
    rw [zcl (by omega)]
    refine z_iadd dX9_count_24 ?_
    refine z_istore_n (i := 2) dX9_count_25 rfl (by decide) rfl ?_
    refine z_iinc dX9_count_26 hl3 rfl ?_
    refine z_goto 9 dX9_count_29 (by decide) ?_
    rw [zinc]
    exact ih (j + 1) (by omega) (by omega) _ hl0 hl1 rfl rfl
set_option maxHeartbeats 4000000 in
theorem l9_count2 {I : Nat → Nat → Int32} {L : Nat → Nat → Int64} {Q : Option Value → ZH → Prop} {P G hd : Nat} {what : Int32} (hG : G ≤ 60) (h35 : I 0 35 = nI G) (hhd : hd < 2) (h15 : I 0 15 = nI hd) (hQ : Q (some (.int (if what = 0 then I 0 24 else if what = 1 then I 0 35 else if what = 2 then I 0 34 else if what = 3 then mnth I 0 G else if what = 4 then mnth I 1 G else if what = 5 then mnth I 2 G else if what = 6 then mnth I 3 G else if what = 7 then I 6 hd else if what = 8 then I 0 2 else if what = 9 then mshs I P else -1))) (mh I L)) (ls : Nat → Option Value) (hl0 : ls 0 = some (.ref 0)) (hl1 : ls 1 = some (.int what)) (hl2 : ls 2 = some (.int (mshs I P))) : Zf x9_count 0 0 32 ls [] (mh I L) Q := by
  refine z_iload_n (i := 1) dX9_count_32 rfl hl1 ?_
  by_cases hs0 : what = 0
  · subst hs0
    refine z_tableIn (off := 55) 88 dX9_count_33 (by decide) (by decide) (by decide) (by decide) ?_
    refine z_aload_n (i := 0) dX9_count_88 rfl hl0 ?_
    refine z_gI zf9_236.g dX9_count_89 (by decide) rfl ?_
    refine z_iret dX9_count_92 rfl ?_
    exact hQ
  by_cases hs1 : what = 1
  · subst hs1
    refine z_tableIn (off := 60) 93 dX9_count_33 (by decide) (by decide) (by decide) (by decide) ?_
    refine z_aload_n (i := 0) dX9_count_93 rfl hl0 ?_
    refine z_gI zf9_253.g dX9_count_94 (by decide) rfl ?_
    refine z_iret dX9_count_97 rfl ?_
    exact hQ
  by_cases hs2 : what = 2
  · subst hs2
    refine z_tableIn (off := 65) 98 dX9_count_33 (by decide) (by decide) (by decide) (by decide) ?_
    refine z_aload_n (i := 0) dX9_count_98 rfl hl0 ?_
    refine z_gI zf9_239.g dX9_count_99 (by decide) rfl ?_
    refine z_iret dX9_count_102 rfl ?_
    exact hQ
  by_cases hs3 : what = 3
  · subst hs3
    refine z_tableIn (off := 70) 103 dX9_count_33 (by decide) (by decide) (by decide) (by decide) ?_
    refine z_aload_n (i := 0) dX9_count_103 rfl hl0 ?_
    refine z_iconst (v := 0) dX9_count_104 (by decide) ?_
    refine z_callV (st := []) (mc2 := 0) (ms2 := 0) zi9_314 zv_yX9_gamesThat (c9_gamesThat _ L G _ hG h35) dX9_count_105 (show (0 : Nat) < 35 by decide) rfl rfl rfl rfl (by decide) (by decide) (Nat.le_of_ble_eq_true rfl) (by decide) (by decide) (fun r h2 hq => ?_)
    obtain ⟨rfl, rfl⟩ := hq
    refine z_iret dX9_count_108 rfl ?_
    exact hQ
  by_cases hs4 : what = 4
  · subst hs4
    refine z_tableIn (off := 76) 109 dX9_count_33 (by decide) (by decide) (by decide) (by decide) ?_
    refine z_aload_n (i := 0) dX9_count_109 rfl hl0 ?_
    refine z_iconst (v := 1) dX9_count_110 (by decide) ?_
    refine z_callV (st := []) (mc2 := 0) (ms2 := 0) zi9_314 zv_yX9_gamesThat (c9_gamesThat _ L G _ hG h35) dX9_count_111 (show (0 : Nat) < 35 by decide) rfl rfl rfl rfl (by decide) (by decide) (Nat.le_of_ble_eq_true rfl) (by decide) (by decide) (fun r h2 hq => ?_)
    obtain ⟨rfl, rfl⟩ := hq
    refine z_iret dX9_count_114 rfl ?_
    exact hQ
  by_cases hs5 : what = 5
  · subst hs5
    refine z_tableIn (off := 82) 115 dX9_count_33 (by decide) (by decide) (by decide) (by decide) ?_
    refine z_aload_n (i := 0) dX9_count_115 rfl hl0 ?_
    refine z_iconst (v := 2) dX9_count_116 (by decide) ?_
    refine z_callV (st := []) (mc2 := 0) (ms2 := 0) zi9_314 zv_yX9_gamesThat (c9_gamesThat _ L G _ hG h35) dX9_count_117 (show (0 : Nat) < 35 by decide) rfl rfl rfl rfl (by decide) (by decide) (Nat.le_of_ble_eq_true rfl) (by decide) (by decide) (fun r h2 hq => ?_)
    obtain ⟨rfl, rfl⟩ := hq
    refine z_iret dX9_count_120 rfl ?_
    exact hQ
  by_cases hs6 : what = 6
  · subst hs6
    refine z_tableIn (off := 88) 121 dX9_count_33 (by decide) (by decide) (by decide) (by decide) ?_
    refine z_aload_n (i := 0) dX9_count_121 rfl hl0 ?_
    refine z_iconst (v := 3) dX9_count_122 (by decide) ?_
    refine z_callV (st := []) (mc2 := 0) (ms2 := 0) zi9_314 zv_yX9_gamesThat (c9_gamesThat _ L G _ hG h35) dX9_count_123 (show (0 : Nat) < 35 by decide) rfl rfl rfl rfl (by decide) (by decide) (Nat.le_of_ble_eq_true rfl) (by decide) (by decide) (fun r h2 hq => ?_)
    obtain ⟨rfl, rfl⟩ := hq
    refine z_iret dX9_count_126 rfl ?_
    exact hQ
  by_cases hs7 : what = 7
  · subst hs7
    refine z_tableIn (off := 94) 127 dX9_count_33 (by decide) (by decide) (by decide) (by decide) ?_
    refine z_aload_n (i := 0) dX9_count_127 rfl hl0 ?_
    refine z_gR zf9_50.g dX9_count_128 (by decide) rfl rfl ?_
    refine z_aload_n (i := 0) dX9_count_131 rfl hl0 ?_
    refine z_gI zf9_198.g dX9_count_132 (by decide) rfl ?_
    rw [h15]
    refine z_iald dX9_count_135 (by decide) rfl (zvin (by omega) (by omega)) ?_
    rw [zcl (by omega)]
    refine z_iret dX9_count_136 rfl ?_
    exact hQ
  by_cases hs8 : what = 8
  · subst hs8
    refine z_tableIn (off := 104) 137 dX9_count_33 (by decide) (by decide) (by decide) (by decide) ?_
    refine z_aload_n (i := 0) dX9_count_137 rfl hl0 ?_
    refine z_gI zf9_145.g dX9_count_138 (by decide) rfl ?_
    refine z_iret dX9_count_141 rfl ?_
    exact hQ
  by_cases hs9 : what = 9
  · subst hs9
    refine z_tableIn (off := 109) 142 dX9_count_33 (by decide) (by decide) (by decide) (by decide) ?_
    refine z_iload_n (i := 2) dX9_count_142 rfl hl2 ?_
    refine z_iret dX9_count_143 rfl ?_
    exact hQ
  refine z_tableOut 144 dX9_count_33 (zsw 9 (by decide) (fun k hk => by rcases (show k = 0 ∨ k = 1 ∨ k = 2 ∨ k = 3 ∨ k = 4 ∨ k = 5 ∨ k = 6 ∨ k = 7 ∨ k = 8 ∨ k = 9 by omega) with rfl | rfl | rfl | rfl | rfl | rfl | rfl | rfl | rfl | rfl <;> assumption)) (by decide) ?_
  refine z_iconst (v := (-1)) dX9_count_144 (by decide) ?_
  refine z_iret dX9_count_145 rfl ?_
  rw [if_neg hs0, if_neg hs1, if_neg hs2, if_neg hs3, if_neg hs4, if_neg hs5, if_neg hs6, if_neg hs7, if_neg hs8, if_neg hs9] at hQ
  exact hQ
set_option maxHeartbeats 4000000 in
theorem c9_count (I : Nat → Nat → Int32) (L : Nat → Nat → Int64) (P G hd : Nat) (what : Int32) (hP : P ≤ 6) (hG : G ≤ 60) (hhd : hd < 2) (h24 : I 0 24 = nI P) (h35 : I 0 35 = nI G) (h15 : I 0 15 = nI hd) : Zm yX9_count cX9_count 4 (some .int) 1 40 0 0 [.ref 0, .int what] (mh I L) (mQ (some (.int (if what = 0 then I 0 24 else if what = 1 then I 0 35 else if what = 2 then I 0 34 else if what = 3 then mnth I 0 G else if what = 4 then mnth I 1 G else if what = 5 then mnth I 2 G else if what = 6 then mnth I 3 G else if what = 7 then I 6 hd else if what = 8 then I 0 2 else if what = 9 then mshs I P else -1))) (zu I 0 0 0) L) := by
  refine Zm_of (lg := false) (by decide) (fun _ => by simp [Value.category]) (fun _ => Nat.le_of_ble_eq_true rfl) ?_
  show Zf x9_count 0 0 0 (zargs [.ref 0, .int what]) [] (mh I L) _
  generalize hQ0 : (mQ (some (.int (if what = 0 then I 0 24 else if what = 1 then I 0 35 else if what = 2 then I 0 34 else if what = 3 then mnth I 0 G else if what = 4 then mnth I 1 G else if what = 5 then mnth I 2 G else if what = 6 then mnth I 3 G else if what = 7 then I 6 hd else if what = 8 then I 0 2 else if what = 9 then mshs I P else -1))) (zu I 0 0 0) L : Option Value → ZH → Prop) = Q0
  refine z_aload_n (i := 0) dX9_count_0 rfl rfl ?_
  refine z_iconst (v := 0) dX9_count_1 (by decide) ?_
  refine z_putI zf9_137 dX9_count_2 (fun h => by cases h) (by decide) rfl ?_
  refine z_iconst (v := 0) dX9_count_5 (by decide) ?_
  refine z_istore_n (i := 2) dX9_count_6 rfl (by decide) rfl ?_
  refine z_iconst (v := 0) dX9_count_7 (by decide) ?_
  refine z_istore_n (i := 3) dX9_count_8 rfl (by decide) rfl ?_
  subst hQ0
  have h0 : ∀ k, mnth (zu I 0 0 0) k G = mnth I k G := fun k => mnth_cong (I := I) (J := zu I 0 0 0) rfl k G
  have h9 : mshs (zu I 0 0 0) P = mshs I P := mshs_cong (I := I) (J := zu I 0 0 0) rfl P
  refine l9_count (I := zu I 0 0 0) (P := P) (what := what) hP h24 (fun ls a0 a1 a2 => l9_count2 (I := zu I 0 0 0) (P := P) (G := G) (hd := hd) hG h35 hhd h15 ?_ ls a0 a1 a2) (P + 1) 0 (by omega) (by omega) _ rfl rfl rfl rfl
  rw [h0, h0, h0, h0, h9]
  exact ⟨rfl, rfl⟩
