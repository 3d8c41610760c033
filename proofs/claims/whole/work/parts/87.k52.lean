/-! a game more -/
theorem zw8_15 : zNw RX8 15 1 10 := ⟨RX1, TX1, tyX1, zC1, zTB_of (by decide +kernel) rfl, zTB_of (by decide +kernel) rfl, zTB_of (by decide +kernel) rfl, by decide +kernel⟩
theorem kG_addG {n : Nat} {K : Nat → Nat × Nat} {R : Nat → Nat → Option Nat} {P G : Nat} {pa ga : Nat → Nat} {ru sp b : Nat} (h : kG n K R P G pa ga ru sp) (hG : G < 60) (hb : 28 ≤ b ∧ b < n ∧ K b = (6, 0)) (h1 : R 2 G = some b) (hd : ∀ g, g < G → ga g < b) : kG n K R P (G + 1) pa (va_up ga G b) ru sp := by
  obtain ⟨⟨a1, a2, a3⟩, a4, a5, a6, a7, a8, a9, ⟨x1, x2⟩, a10⟩ := h
  refine ⟨⟨a1, a2, by omega⟩, a4, a5, a6, a7, a8, a9, ⟨fun g hg => ?_, fun g k hg hk e => ?_⟩, a10⟩
  · by_cases e : g = G
    · rw [e, va_up_self]; exact ⟨h1, hb⟩
    · rw [va_up_ne _ _ e]; exact x1 g (by omega)
  · by_cases eg : g = G
    · by_cases ek : k = G
      · omega
      · rw [eg, va_up_self, va_up_ne _ _ ek] at e
        have := hd k (by omega)
        omega
    · by_cases ek : k = G
      · rw [ek, va_up_self, va_up_ne _ _ eg] at e
        have := hd g (by omega)
        omega
      · rw [va_up_ne _ _ eg, va_up_ne _ _ ek] at e
        exact x2 g k (by omega) (by omega) e
theorem mnof_lt {I I' : Nat → Nat → Int32} {c how : Int32} : ∀ G, (∀ k, k < G → I' 31 k = I 31 k ∧ I' 25 k = I 25 k ∧ I' 26 k = I 26 k) → mnof I' c how G = mnof I c how G
  | 0, _ => rfl
  | G + 1, h => by
    simp only [mnof]
    obtain ⟨a, b, d⟩ := h G (by omega)
    have hm : mhc I' G c = mhc I G c := by unfold mhc; rw [b, d]
    rw [mnof_lt G (fun k hk => h k (by omega)), a, hm]
theorem mgame_ne (I : Nat → Nat → Int32) (G : Nat) (a b age rk wk ws : Int32) {q : Nat} (h : q ≠ 0 ∧ (q < 25 ∨ 32 < q)) : mgame I G a b age rk wk ws q = I q := by
  unfold mgame
  rw [zu_ne _ _ _ h.1, zu_ne _ _ _ (by omega), zu_ne _ _ _ (by omega), zu_ne _ _ _ (by omega), zu_ne _ _ _ (by omega), zu_ne _ _ _ (by omega), zu_ne _ _ _ (by omega), zu_ne _ _ _ (by omega), zu_ne _ _ _ (by omega), zu_ne _ _ _ h.1]
theorem mgame_k (I : Nat → Nat → Int32) (G : Nat) (a b age rk wk ws : Int32) {q k : Nat} (hq : q ≠ 0) (hk : k ≠ G) : mgame I G a b age rk wk ws q k = I q k := by
  unfold mgame
  rw [zu_ne _ _ _ hq, zu_apply, if_neg (fun w => hk w.2), zu_apply, if_neg (fun w => hk w.2), zu_apply, if_neg (fun w => hk w.2), zu_apply, if_neg (fun w => hk w.2), zu_apply, if_neg (fun w => hk w.2), zu_apply, if_neg (fun w => hk w.2), zu_apply, if_neg (fun w => hk w.2), zu_apply, if_neg (fun w => hk w.2), zu_ne _ _ _ hq]
theorem mgame_G (I : Nat → Nat → Int32) (G : Nat) (a b age rk wk ws : Int32) : mgame I G a b age rk wk ws 25 G = a ∧ mgame I G a b age rk wk ws 26 G = b ∧ mgame I G a b age rk wk ws 27 G = age ∧ mgame I G a b age rk wk ws 28 G = rk ∧ mgame I G a b age rk wk ws 29 G = wk ∧ mgame I G a b age rk wk ws 30 G = ws ∧ mgame I G a b age rk wk ws 31 G = 0 ∧ mgame I G a b age rk wk ws 32 G = -1 := by
  unfold mgame
  refine ⟨?_, ?_, ?_, ?_, ?_, ?_, ?_, ?_⟩ <;> simp [zu_apply]
theorem kD_addG {n : Nat} {K : Nat → Nat × Nat} {R : Nat → Nat → Option Nat} {P G D : Nat} {pa ga : Nat → Nat} {ru sp : Nat} {J I : Nat → Nat → Int32} {a b age rk wk ws : Int32} (hG : kG n K R P G pa ga ru sp) (h : kD J I P G D pa ga) (hG6 : G < 60) (hz : kIz I P G) : kD (zu (kgm (va_up J n (fun _ => 0)) n a b age rk wk ws) 0 14 (nI (G + 1))) (mgame I G a b age rk wk ws) P (G + 1) D pa (va_up ga G n) := by
  obtain ⟨⟨hn28, -, -⟩, -, -, -, -, -, -, ⟨hgm, -⟩, ⟨hpm, hpi⟩⟩ := hG
  obtain ⟨⟨s1, s2, s3⟩, h2, h3, h4, h5⟩ := h
  have e : ∀ q, q ≠ 0 → q < n → zu (kgm (va_up J n (fun _ => 0)) n a b age rk wk ws) 0 14 (nI (G + 1)) q = J q := fun q x y => by
    rw [zu_ne _ _ _ x]
    unfold kgm
    have hq : q ≠ n := by omega
    rw [zu_ne _ _ _ hq, zu_ne _ _ _ hq, zu_ne _ _ _ hq, zu_ne _ _ _ hq, zu_ne _ _ _ hq, zu_ne _ _ _ hq, zu_ne _ _ _ hq, zu_ne _ _ _ hq, zu_ne _ _ _ hq, va_up_ne _ _ hq]
  have e0 : ∀ k, k ≠ 14 → zu (kgm (va_up J n (fun _ => 0)) n a b age rk wk ws) 0 14 (nI (G + 1)) 0 k = J 0 k := fun k hk => by
    rw [zu_apply, if_neg (by omega)]
    unfold kgm
    have hq : 0 ≠ n := by omega
    rw [zu_ne _ _ _ hq, zu_ne _ _ _ hq, zu_ne _ _ _ hq, zu_ne _ _ _ hq, zu_ne _ _ _ hq, zu_ne _ _ _ hq, zu_ne _ _ _ hq, zu_ne _ _ _ hq, zu_ne _ _ _ hq, va_up_ne _ _ hq]
  obtain ⟨g25, g26, g27, g28, g29, g30, g31, g32⟩ := mgame_G I G a b age rk wk ws
  refine ⟨⟨by rw [e0 13 (by decide)]; exact s1, by rw [zu_apply, if_pos ⟨rfl, rfl⟩], by rw [e0 15 (by decide)]; exact s3⟩, fun g hg => ?_, fun p hp => ?_, ?_, fun c hc => ?_⟩
  · by_cases eg : g = G
    · rw [eg, va_up_self]
      unfold kGm
      rw [zu_ne _ _ _ (show n ≠ 0 by omega), g25, g26, g27, g28, g29, g30, g31, g32, if_pos (show (-1 : Int32) < 0 by decide), mgame_ne I G a b age rk wk ws (q := 33) (by decide), hz.2 G (Nat.le_refl _) hG6]
      unfold kgm
      refine ⟨⟨?_, ?_, ?_, ?_, ?_⟩, ⟨?_, ?_, ?_, ?_, ?_⟩⟩ <;> simp [zu_apply, va_up]
    · rw [va_up_ne _ _ eg]
      obtain ⟨-, q1, q2, -⟩ := hgm g (by omega)
      exact kGm_cong (h2 g (by omega)) (e _ (by omega) q2) (fun q x y => mgame_k I G a b age rk wk ws (by omega) eg)
  · obtain ⟨-, q1, q2, -⟩ := hpm p hp
    exact kPm_cong (h3 p hp) (fun q x y => e q (by omega) (by omega)) (fun q x y _ _ => by rw [mgame_ne I G a b age rk wk ws (by omega)]) (fun k _ => ⟨by rw [mgame_ne I G a b age rk wk ws (by omega)], by rw [mgame_ne I G a b age rk wk ws (by omega)]⟩)
  · exact kTr_cong h4 (e 3 (by decide) (by omega)) (mgame_ne I G a b age rk wk ws (by decide))
  · obtain ⟨c1, c2, c3⟩ := h5 c hc
    have hl : ∀ how, mnof (mgame I G a b age rk wk ws) (nI c) how G = mnof I (nI c) how G := fun how => mnof_lt G (fun k hk => ⟨mgame_k I G a b age rk wk ws (by decide) (by omega), mgame_k I G a b age rk wk ws (by decide) (by omega), mgame_k I G a b age rk wk ws (by decide) (by omega)⟩)
    rw [e 4 (by decide) (by omega), e 5 (by decide) (by omega), e 6 (by decide) (by omega), mgame_ne I G a b age rk wk ws (q := 34) (by decide)]
    simp only [mnof]
    rw [hl, hl, g31, if_neg (fun q => absurd q.1 (by decide)), if_neg (fun q => absurd q.1 (by decide))]
    refine ⟨?_, c2, ?_⟩
    · rw [c1]; grind
    · rw [c3]; grind
theorem kOk_addG {P G C ka kb ag rk W w : Nat} {I : Nat → Nat → Int32} (h : kOk I P G C) (ha : ka < 16) (hb : kb < 16) (hab : ka ≠ kb) (hag : ag ≤ 2) (hrk : rk ≤ 9) (hW : W ≤ 50) (hw : w < 268435456) : kOk (mgame I G (nI ka) (nI kb) (nI ag) (nI rk) (nI W) (nI w)) P (G + 1) C := by
  obtain ⟨⟨hi, hu, hc⟩, hp⟩ := h
  obtain ⟨g25, g26, g27, g28, g29, g30, g31, g32⟩ := mgame_G I G (nI ka) (nI kb) (nI ag) (nI rk) (nI W) (nI w)
  have mG : mth (mgame I G (nI ka) (nI kb) (nI ag) (nI rk) (nI W) (nI w)) G = false := mnot0 g31
  have hk : ∀ q k, q ≠ 0 → k ≠ G → mgame I G (nI ka) (nI kb) (nI ag) (nI rk) (nI W) (nI w) q k = I q k := fun q k h1 h2 => mgame_k I G _ _ _ _ _ _ h1 h2
  have mk : ∀ k, k ≠ G → mth (mgame I G (nI ka) (nI kb) (nI ag) (nI rk) (nI W) (nI w)) k = mth I k := fun k h => by unfold mth; rw [hk 31 k (by decide) h]
  have mc : ∀ k c, k ≠ G → mhc (mgame I G (nI ka) (nI kb) (nI ag) (nI rk) (nI W) (nI w)) k c = mhc I k c := fun k c h => by unfold mhc; rw [hk 25 k (by decide) h, hk 26 k (by decide) h]
  refine ⟨⟨fun g hg => ?_, fun x y hx hy hxy mx my => ?_, fun x y hx hy hxy mx my e c => ?_⟩, fun g hg h2 => ?_⟩
  · by_cases eg : g = G
    · rw [eg]
      exact ⟨⟨ka, kb, ha, hb, hab, g25, g26⟩, ⟨ag, hag, g27⟩, ⟨rk, hrk, g28⟩, ⟨w, hw, g30⟩, W, hW, g29, Or.inl ⟨mG, Or.inl g31, g32⟩⟩
    · obtain ⟨a1, a2, a3, a4, w', hw', h29, hs⟩ := hi g (by omega)
      unfold kIg kIs
      rw [hk 25 g (by decide) eg, hk 26 g (by decide) eg, hk 27 g (by decide) eg, hk 28 g (by decide) eg, hk 29 g (by decide) eg, hk 30 g (by decide) eg, hk 31 g (by decide) eg, hk 32 g (by decide) eg, mk g eg]
      exact ⟨a1, a2, a3, a4, w', hw', h29, hs⟩
  · have ex : x ≠ G := fun q => by rw [q, mG] at mx; cases mx
    have ey : y ≠ G := fun q => by rw [q, mG] at my; cases my
    rw [mk x ex] at mx
    rw [mk y ey] at my
    rw [hk 32 x (by decide) ex, hk 32 y (by decide) ey]
    exact hu x y (by omega) (by omega) hxy mx my
  · have ex : x ≠ G := fun q => by rw [q, mG] at mx; cases mx
    have ey : y ≠ G := fun q => by rw [q, mG] at my; cases my
    rw [mk x ex] at mx
    rw [mk y ey] at my
    rw [hk 32 x (by decide) ex, hk 32 y (by decide) ey] at e
    rw [mc x c ex, mc y c ey]
    exact hc x y (by omega) (by omega) hxy mx my e c
  · by_cases eg : g = G
    · rw [eg, g31] at h2
      exact absurd h2 (by decide)
    · rw [hk 31 g (by decide) eg] at h2
      rw [hk 32 g (by decide) eg]
      exact hp g (by omega) h2
abbrev kQgam (n : Nat) (J : Nat → Nat → Int32) (R : Nat → Nat → Option Nat) (P G D : Nat) (pa ga : Nat → Nat) (ru sp : Nat) (I' : Nat → Nat → Int32) : Option Value → ZH → Prop := fun r h => r = some (.int (nI G)) ∧ ∃ (K' : Nat → Nat × Nat) (M : Nat → Nat → Int32) (L' : Nat → Nat → Int64) (R' : Nat → Nat → Option Nat), h = (n + 1, K', M, L', R') ∧ kG (n + 1) K' R' P (G + 1) pa (va_up ga G n) ru sp ∧ kD M I' P (G + 1) D pa (va_up ga G n) ∧ (kClo n R → kClo (n + 1) R') ∧ ∀ a, 7 ≤ a → a < 28 → M a = J a
theorem k16 {r : Int32} : 16 ≤ r ↔ 15 < r := by
  rw [Int32.le_iff_toInt_le, Int32.lt_iff_toInt_lt]
  show (16 : Int) ≤ _ ↔ (15 : Int) < _
  omega
theorem k9_9 {c : Int32} (h : 9 < c) : ¬ c ≤ 9 := by
  rw [Int32.le_iff_toInt_le]
  rw [Int32.lt_iff_toInt_lt] at h
  have h : (9 : Int) < c.toInt := h
  show ¬ c.toInt ≤ (9 : Int)
  omega
abbrev x8_game : ZX := (RX8, cX8_game, 8, (some .int), "game", 2, 80, false)
set_option maxHeartbeats 4000000 in
theorem c8_game (n : Nat) (K : Nat → Nat × Nat) (J : Nat → Nat → Int32) (L : Nat → Nat → Int64) (R : Nat → Nat → Option Nat) (P G : Nat) (pa ga : Nat → Nat) (ru sp : Nat) (hG : kG n K R P G pa ga ru sp) (I : Nat → Nat → Int32) (D ka kb ag rk : Nat) (wk ws : Int32) (hD : D ≤ 357) (h34 : I 0 34 = nI D) (hG6 : G < 60) (ha : ka < 16) (hb : kb < 16) (hab : ka ≠ kb) (hag : ag ≤ 2) (hrk : rk ≤ 9) (hgn : mgone I wk = 0) (hw1 : ¬ ws ≤ 0) (hw2 : ¬ 268435455 < ws) (hz : kIz I P G) (hKD : kD J I P G D pa ga) : Zm yX8_game cX8_game 8 (some .int) 2 80 1 10 [.ref 0, .int (nI ka), .int (nI kb), .int (nI ag), .int (nI rk), .int wk, .int ws] (n, K, J, L, R) (kQgam n J R P G D pa ga ru sp (mgame I G (nI ka) (nI kb) (nI ag) (nI rk) wk ws)) := by
  refine Zm_of (lg := false) (by decide) (fun _ => by simp [Value.category]) (fun _ => Nat.le_of_ble_eq_true rfl) ?_
  show Zf x8_game 1 10 0 (zargs [.ref 0, .int (nI ka), .int (nI kb), .int (nI ag), .int (nI rk), .int wk, .int ws]) [] (n, K, J, L, R) _
  generalize hQ0 : (kQgam n J R P G D pa ga ru sp (mgame I G (nI ka) (nI kb) (nI ag) (nI rk) wk ws) : Option Value → ZH → Prop) = Q0
  obtain ⟨⟨hn28, hP6, hG60⟩, ⟨hk0, hk1, hk2, hk3, hk4, hk5, hk6, hk7⟩, ⟨hr0, hr1, hr2, hr3, hr4, hr5, hr6⟩, ⟨hr7, hr8, hr9, hr10, hr11, hr12⟩, hB8, ⟨hT11, hR17, hT13⟩, ⟨hU18, hU23, hrs⟩, ⟨hgm, hgi⟩, ⟨hpm, hpi⟩⟩ := id hG
  have hn0 : 0 < n := by omega
  have hn1 : 1 < n := by omega
  have hn2 : 2 < n := by omega
  have hn3 : 3 < n := by omega
  have hn4 : 4 < n := by omega
  have hn5 : 5 < n := by omega
  have hn6 : 6 < n := by omega
  have hn7 : 7 < n := by omega
  have hn8 : 8 < n := by omega
  have hk8 : K 8 = (5, 0) := hB8.2.2.2.1
  have hn11 : 11 < n := by omega
  have hk11 : K 11 = (10, 0) := hT11.2.2.1
  obtain ⟨⟨h13, h14, h15⟩, hdg, hdp, hdt, hdc⟩ := id hKD
  obtain ⟨kw1, kw2⟩ := kweek (w := wk) h34 hD
  rw [if_pos hgn] at kw1
  refine z_iload_n (i := 1) dX8_game_0 rfl rfl ?_
  refine z_callS (st := []) (mc2 := 1) (ms2 := 10) zi8_90 zs_yX8_isClub (c8_isClub n K J L R _) dX8_game_1 rfl rfl (by decide) (by decide) (Nat.le_of_ble_eq_true rfl) (by decide) (by decide) (fun r h2 hq => ?_)
  obtain ⟨rfl, rfl⟩ := hq
  rw [kicl ha]
  refine z_if_eq 19 dX8_game_4 (by decide) (fun c_1 => absurd c_1 (by decide)) (fun _ => ?_)
  refine z_iload_n (i := 2) dX8_game_7 rfl rfl ?_
  refine z_callS (st := []) (mc2 := 1) (ms2 := 10) zi8_90 zs_yX8_isClub (c8_isClub n K J L R _) dX8_game_8 rfl rfl (by decide) (by decide) (Nat.le_of_ble_eq_true rfl) (by decide) (by decide) (fun r h2 hq => ?_)
  obtain ⟨rfl, rfl⟩ := hq
  rw [kicl hb]
  refine z_if_eq 19 dX8_game_11 (by decide) (fun c_2 => absurd c_2 (by decide)) (fun _ => ?_)
  refine z_iload_n (i := 1) dX8_game_14 rfl rfl ?_
  refine z_iload_n (i := 2) dX8_game_15 rfl rfl ?_
  refine z_icmp_ne 21 dX8_game_16 (by decide) (fun _ => ?_) (fun c_3 => absurd c_3 (fun q => hab ((zeq (by omega) (by omega)).mp q)))
  refine z_iload_n (i := 3) dX8_game_21 rfl rfl ?_
  refine z_if_lt 42 dX8_game_22 (by decide) (fun c_4 => absurd c_4 (nIneg (by omega))) (fun _ => ?_)
  refine z_iload_n (i := 3) dX8_game_25 rfl rfl ?_
  refine z_iconst (v := 3) dX8_game_26 (by decide) ?_
  refine z_icmp_ge 42 dX8_game_27 (by decide) (fun c_5 => absurd c_5 (fun q => by have := (zle (a := 3) (b := ag) (by omega) (by omega)).mp q; omega)) (fun _ => ?_)
  refine z_iload dX8_game_30 rfl ?_
  refine z_if_lt 42 dX8_game_32 (by decide) (fun c_6 => absurd c_6 (nIneg (by omega))) (fun _ => ?_)
  refine z_iload dX8_game_35 rfl ?_
  refine z_bipush (v := 9) dX8_game_37 (by decide) ?_
  refine z_icmp_le 44 dX8_game_39 (by decide) (fun _ => ?_) (fun c_7 => absurd ((zle (a := rk) (b := 9) (by omega) (by omega)).mpr hrk) c_7)
  refine z_aload_n (i := 0) dX8_game_44 rfl rfl ?_
  refine z_iload dX8_game_45 rfl ?_
  refine z_callV (st := []) (mc2 := 1) (ms2 := 10) zi8_94 zv_yX8_isWeekToCome (c8_isWeekToCome n K J L R 0 hn0 hk0 _) dX8_game_47 hn0 (congrArg Prod.fst hk0) rfl rfl rfl (by decide) (by decide) (Nat.le_of_ble_eq_true rfl) (by decide) (by decide) (fun r h2 hq => ?_)
  obtain ⟨rfl, rfl⟩ := hq
  rw [h15, kw1]
  refine z_if_eq 77 dX8_game_50 (by decide) (fun c_8 => absurd c_8 (by decide)) (fun _ => ?_)
  refine z_iload dX8_game_53 rfl ?_
  refine z_if_le 77 dX8_game_55 (by decide) (fun c_9 => absurd c_9 hw1) (fun _ => ?_)
  refine z_iload dX8_game_58 rfl ?_
  refine z_ldc (v := 268435455) dX8_game_60 (zTB_of (by decide +kernel) rfl) ?_
  refine z_icmp_gt 77 dX8_game_62 (by decide) (fun c_10 => absurd c_10 hw2) (fun _ => ?_)
  refine z_aload_n (i := 0) dX8_game_65 rfl rfl ?_
  refine z_gI zf8_81.g dX8_game_66 hn0 hk0 ?_
  rw [h14]
  refine z_aload_n (i := 0) dX8_game_69 rfl rfl ?_
  refine z_gR zf8_17.g dX8_game_70 hn0 hk0 hr1 ?_
  refine z_alenQ dX8_game_73 hn2 hk2 rfl ?_
  rw [show Int32.ofNat 60 = nI 60 from rfl]
  refine z_icmp_lt 79 dX8_game_74 (by decide) (fun _ => ?_) (fun c_11 => absurd ((zlt (a := G) (b := 60) (by omega) (by omega)).mpr hG6) c_11)
  refine z_aload_n (i := 0) dX8_game_79 rfl rfl ?_
  refine z_gI zf8_81.g dX8_game_80 hn0 hk0 ?_
  rw [h14]
  refine z_istore (i := 7) dX8_game_83 (by decide) rfl ?_
  refine z_aload_n (i := 0) dX8_game_85 rfl rfl ?_
  refine z_gR zf8_17.g dX8_game_86 hn0 hk0 hr1 ?_
  refine z_iload dX8_game_89 rfl ?_
  refine z_new (mc2 := 0) (ms2 := 0) zw8_15 dX8_game_91 (by omega) (by omega) ?_
  refine z_dup dX8_game_94 rfl ?_
  refine z_iload_n (i := 1) dX8_game_95 rfl rfl ?_
  refine z_iload_n (i := 2) dX8_game_96 rfl rfl ?_
  refine z_iload_n (i := 3) dX8_game_97 rfl rfl ?_
  refine z_iload dX8_game_98 rfl ?_
  refine z_iload dX8_game_100 rfl ?_
  refine z_iload dX8_game_102 rfl ?_
  refine z_callI (st := [_, _, _]) (mc2 := 0) (ms2 := 0) zi8_98 zn_yX1_init rfl (c1_init (n + 1) _ _ _ _ n (by omega) (va_up_self _ _ _) (nI ka) (nI kb) (nI ag) (nI rk) wk ws) dX8_game_104 rfl rfl (by decide) (by decide) (Nat.le_of_ble_eq_true rfl) (by decide) (by decide) (fun r h3 hq => ?_)
  obtain ⟨rfl, rfl⟩ := hq
  simp only [Option.toList, List.nil_append]
  have hK9 : ∀ a, a < n → va_up K n (1 + 5, 0) a = K a := fun a ha => va_up_ne _ _ (by omega)
  refine z_aastQ dX8_game_107 (show 2 < n + 1 by omega) (by rw [hK9 2 (by omega)]; exact hk2) (show n < n + 1 by omega) (va_up_self _ _ _) (zvin (by omega) (by omega)) ?_
  rw [zcl (by omega)]
  have hR9 : ∀ a, a < n → a ≠ 2 → zu (va_up R n (fun _ => none)) 2 G (some n) a = R a := fun a h1 h2 => by rw [zu_ne _ _ _ h2, va_up_ne _ _ (by omega)]
  have hG5 : kG (n + 1) (va_up K n (1 + 5, 0)) (zu (va_up R n (fun _ => none)) 2 G (some n)) P G pa ga ru sp := kG_mono hG (by omega) hK9 (fun a h1 _ h2 => hR9 a h1 h2) (fun p hp => by rw [hR9 1 (by omega) (by decide)]) (fun g hg => by rw [zu_apply, if_neg (by omega), va_up_ne _ _ (by omega)])
  have hG7 := kG_addG hG5 hG6 ⟨hn28, by omega, va_up_self _ _ _⟩ (by rw [zu_apply, if_pos ⟨rfl, rfl⟩]) (fun g hg => (hgm g hg).2.2.1)
  have hD6 := kD_addG (a := nI ka) (b := nI kb) (age := nI ag) (rk := nI rk) (wk := wk) (ws := ws) hG hKD hG6 hz
  have e14 : kgm (va_up J n (fun _ => 0)) n (nI ka) (nI kb) (nI ag) (nI rk) wk ws 0 14 = nI G := by
    unfold kgm
    have hq : 0 ≠ n := by omega
    rw [zu_ne _ _ _ hq, zu_ne _ _ _ hq, zu_ne _ _ _ hq, zu_ne _ _ _ hq, zu_ne _ _ _ hq, zu_ne _ _ _ hq, zu_ne _ _ _ hq, zu_ne _ _ _ hq, zu_ne _ _ _ hq, va_up_ne _ _ hq]
    exact h14
  have hk0' : va_up K n (1 + 5, 0) 0 = (13, 0) := by rw [hK9 0 (by omega)]; exact hk0
  refine z_aload_n (i := 0) dX8_game_108 rfl rfl ?_
  refine z_dup dX8_game_109 rfl ?_
  refine z_gI zf8_81.g dX8_game_110 (show 0 < n + 1 by omega) hk0' ?_
  rw [e14]
  refine z_iconst (v := 1) dX8_game_113 (by decide) ?_
  refine z_iadd dX8_game_114 ?_
  refine z_top (y := .int (nI (G + 1))) (by rw [zl1, nI_add]) ?_
  refine z_putI zf8_81 dX8_game_115 (fun h => by cases h) (show 0 < n + 1 by omega) hk0' ?_
  refine z_iload dX8_game_118 rfl ?_
  refine z_iret dX8_game_120 rfl ?_
  subst hQ0
  refine ⟨rfl, _, _, _, _, rfl, hG7, hD6, fun hc => hc.up.put _ _ _ (by omega), fun a h1 h2 => ?_⟩
  rw [zu_ne _ _ _ (by omega)]
  unfold kgm
  have hq : a ≠ n := by omega
  rw [zu_ne _ _ _ hq, zu_ne _ _ _ hq, zu_ne _ _ _ hq, zu_ne _ _ _ hq, zu_ne _ _ _ hq, zu_ne _ _ _ hq, zu_ne _ _ _ hq, zu_ne _ _ _ hq, zu_ne _ _ _ hq, va_up_ne _ _ hq]
set_option maxHeartbeats 4000000 in
theorem c8_game0 (n : Nat) (K : Nat → Nat × Nat) (J : Nat → Nat → Int32) (L : Nat → Nat → Int64) (R : Nat → Nat → Option Nat) (P G : Nat) (pa ga : Nat → Nat) (ru sp : Nat) (hG : kG n K R P G pa ga ru sp) (I : Nat → Nat → Int32) (D : Nat) (a b age rk wk ws : Int32) (hD : D ≤ 357) (h34 : I 0 34 = nI D) (hKD : kD J I P G D pa ga) (hbd : a < 0 ∨ 15 < a ∨ b < 0 ∨ 15 < b ∨ a = b ∨ age < 0 ∨ 2 < age ∨ rk < 0 ∨ 9 < rk ∨ ¬ mgone I wk = 0 ∨ ws ≤ 0 ∨ 268435455 < ws ∨ G = 60) : Zm yX8_game cX8_game 8 (some .int) 2 80 0 0 [.ref 0, .int a, .int b, .int age, .int rk, .int wk, .int ws] ((n, K, J, L, R)) (kQ (some (.int (-1))) n K J L R) := by
  refine Zm_of (lg := false) (by decide) (fun _ => by simp [Value.category]) (fun _ => Nat.le_of_ble_eq_true rfl) ?_
  show Zf x8_game 0 0 0 (zargs [.ref 0, .int a, .int b, .int age, .int rk, .int wk, .int ws]) [] ((n, K, J, L, R)) _
  generalize hQ0 : (kQ (some (.int (-1))) n K J L R : Option Value → ZH → Prop) = Q0
  obtain ⟨⟨hn28, hP6, hG60⟩, ⟨hk0, hk1, hk2, hk3, hk4, hk5, hk6, hk7⟩, ⟨hr0, hr1, hr2, hr3, hr4, hr5, hr6⟩, ⟨hr7, hr8, hr9, hr10, hr11, hr12⟩, hB8, ⟨hT11, hR17, hT13⟩, ⟨hU18, hU23, hrs⟩, ⟨hgm, hgi⟩, ⟨hpm, hpi⟩⟩ := id hG
  have hn0 : 0 < n := by omega
  have hn1 : 1 < n := by omega
  have hn2 : 2 < n := by omega
  have hn3 : 3 < n := by omega
  have hn4 : 4 < n := by omega
  have hn5 : 5 < n := by omega
  have hn6 : 6 < n := by omega
  have hn7 : 7 < n := by omega
  have hn8 : 8 < n := by omega
  have hk8 : K 8 = (5, 0) := hB8.2.2.2.1
  have hn11 : 11 < n := by omega
  have hk11 : K 11 = (10, 0) := hT11.2.2.1
  obtain ⟨⟨h13, h14, h15⟩, hdg, hdp, hdt, hdc⟩ := id hKD
  obtain ⟨kw1, kw2⟩ := kweek (w := wk) h34 hD
  refine z_iload_n (i := 1) dX8_game_0 rfl rfl ?_
  refine z_callS (st := []) (mc2 := 0) (ms2 := 0) zi8_90 zs_yX8_isClub (c8_isClub n K J L R _) dX8_game_1 rfl rfl (by decide) (by decide) (Nat.le_of_ble_eq_true rfl) (by decide) (by decide) (fun r h2 hq => ?_)
  obtain ⟨rfl, rfl⟩ := hq
  refine z_if_eq 19 dX8_game_4 (by decide) (fun c_1 => ?_) (fun c_1 => ?_)
  · skip
    refine z_iconst (v := (-1)) dX8_game_19 (by decide) ?_
    refine z_iret dX8_game_20 rfl ?_
    subst hQ0
    exact ⟨rfl, rfl⟩
  · skip
    refine z_iload_n (i := 2) dX8_game_7 rfl rfl ?_
    refine z_callS (st := []) (mc2 := 0) (ms2 := 0) zi8_90 zs_yX8_isClub (c8_isClub n K J L R _) dX8_game_8 rfl rfl (by decide) (by decide) (Nat.le_of_ble_eq_true rfl) (by decide) (by decide) (fun r h2 hq => ?_)
    obtain ⟨rfl, rfl⟩ := hq
    refine z_if_eq 19 dX8_game_11 (by decide) (fun c_2 => ?_) (fun c_2 => ?_)
    · skip
      refine z_iconst (v := (-1)) dX8_game_19 (by decide) ?_
      refine z_iret dX8_game_20 rfl ?_
      subst hQ0
      exact ⟨rfl, rfl⟩
    · skip
      refine z_iload_n (i := 1) dX8_game_14 rfl rfl ?_
      refine z_iload_n (i := 2) dX8_game_15 rfl rfl ?_
      refine z_icmp_ne 21 dX8_game_16 (by decide) (fun c_3 => ?_) (fun c_3 => ?_)
      · skip
        refine z_iload_n (i := 3) dX8_game_21 rfl rfl ?_
        refine z_if_lt 42 dX8_game_22 (by decide) (fun c_4 => ?_) (fun c_4 => ?_)
        · skip
          refine z_iconst (v := (-1)) dX8_game_42 (by decide) ?_
          refine z_iret dX8_game_43 rfl ?_
          subst hQ0
          exact ⟨rfl, rfl⟩
        · skip
          refine z_iload_n (i := 3) dX8_game_25 rfl rfl ?_
          refine z_iconst (v := 3) dX8_game_26 (by decide) ?_
          refine z_icmp_ge 42 dX8_game_27 (by decide) (fun c_5 => ?_) (fun c_5 => ?_)
          · skip
            refine z_iconst (v := (-1)) dX8_game_42 (by decide) ?_
            refine z_iret dX8_game_43 rfl ?_
            subst hQ0
            exact ⟨rfl, rfl⟩
          · skip
            refine z_iload dX8_game_30 rfl ?_
            refine z_if_lt 42 dX8_game_32 (by decide) (fun c_6 => ?_) (fun c_6 => ?_)
            · skip
              refine z_iconst (v := (-1)) dX8_game_42 (by decide) ?_
              refine z_iret dX8_game_43 rfl ?_
              subst hQ0
              exact ⟨rfl, rfl⟩
            · skip
              refine z_iload dX8_game_35 rfl ?_
              refine z_bipush (v := 9) dX8_game_37 (by decide) ?_
              refine z_icmp_le 44 dX8_game_39 (by decide) (fun c_7 => ?_) (fun c_7 => ?_)
              · skip
                refine z_aload_n (i := 0) dX8_game_44 rfl rfl ?_
                refine z_iload dX8_game_45 rfl ?_
                refine z_callV (st := []) (mc2 := 0) (ms2 := 0) zi8_94 zv_yX8_isWeekToCome (c8_isWeekToCome n K J L R 0 hn0 hk0 _) dX8_game_47 hn0 (congrArg Prod.fst hk0) rfl rfl rfl (by decide) (by decide) (Nat.le_of_ble_eq_true rfl) (by decide) (by decide) (fun r h2 hq => ?_)
                obtain ⟨rfl, rfl⟩ := hq
                rw [h15, kw1]
                refine z_if_eq 77 dX8_game_50 (by decide) (fun c_8 => ?_) (fun c_8 => ?_)
                · skip
                  refine z_iconst (v := (-1)) dX8_game_77 (by decide) ?_
                  refine z_iret dX8_game_78 rfl ?_
                  subst hQ0
                  exact ⟨rfl, rfl⟩
                · skip
                  refine z_iload dX8_game_53 rfl ?_
                  refine z_if_le 77 dX8_game_55 (by decide) (fun c_9 => ?_) (fun c_9 => ?_)
                  · skip
                    refine z_iconst (v := (-1)) dX8_game_77 (by decide) ?_
                    refine z_iret dX8_game_78 rfl ?_
                    subst hQ0
                    exact ⟨rfl, rfl⟩
                  · skip
                    refine z_iload dX8_game_58 rfl ?_
                    refine z_ldc (v := 268435455) dX8_game_60 (zTB_of (by decide +kernel) rfl) ?_
                    refine z_icmp_gt 77 dX8_game_62 (by decide) (fun c_10 => ?_) (fun c_10 => ?_)
                    · skip
                      refine z_iconst (v := (-1)) dX8_game_77 (by decide) ?_
                      refine z_iret dX8_game_78 rfl ?_
                      subst hQ0
                      exact ⟨rfl, rfl⟩
                    · skip
                      refine z_aload_n (i := 0) dX8_game_65 rfl rfl ?_
                      refine z_gI zf8_81.g dX8_game_66 hn0 hk0 ?_
                      rw [h14]
                      refine z_aload_n (i := 0) dX8_game_69 rfl rfl ?_
                      refine z_gR zf8_17.g dX8_game_70 hn0 hk0 hr1 ?_
                      refine z_alenQ dX8_game_73 hn2 hk2 rfl ?_
                      rw [show Int32.ofNat 60 = nI 60 from rfl]
                      refine z_icmp_lt 79 dX8_game_74 (by decide) (fun c_11 => ?_) (fun c_11 => ?_)
                      · skip
                        subst hQ0
                        exfalso
                        rcases hbd with h | h | h | h | h | h | h | h | h | h | h | h | h
                        · exact c_1 (by rw [if_pos h])
                        · exact c_1 (mip0 (Or.inr (k16.mpr h)))
                        · exact c_2 (by rw [if_pos h])
                        · exact c_2 (mip0 (Or.inr (k16.mpr h)))
                        · exact c_3 h
                        · exact c_4 h
                        · exact c_5 (k3_2.mpr h)
                        · exact c_6 h
                        · exact absurd c_7 (k9_9 h)
                        · exact c_8 (by rw [if_neg h])
                        · exact c_9 h
                        · exact c_10 h
                        · have := (zlt (a := G) (b := 60) (by omega) (by omega)).mp c_11
                          omega
                      · skip
                        refine z_iconst (v := (-1)) dX8_game_77 (by decide) ?_
                        refine z_iret dX8_game_78 rfl ?_
                        subst hQ0
                        exact ⟨rfl, rfl⟩
              · skip
                refine z_iconst (v := (-1)) dX8_game_42 (by decide) ?_
                refine z_iret dX8_game_43 rfl ?_
                subst hQ0
                exact ⟨rfl, rfl⟩
      · skip
        refine z_iconst (v := (-1)) dX8_game_19 (by decide) ?_
        refine z_iret dX8_game_20 rfl ?_
        subst hQ0
        exact ⟨rfl, rfl⟩
