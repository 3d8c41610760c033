/-! the keeper: where things lie -/
def kPb (n : Nat) (K : Nat → Nat × Nat) (R : Nat → Nat → Option Nat) (b : Nat) : Prop := 28 ≤ b ∧ b + 5 ≤ n ∧ K b = (7, 0) ∧ kTf n K R (b + 1) (b + 2) ∧ kTf n K R (b + 3) (b + 4) ∧ R b 0 = some (b + 1) ∧ R b 1 = some (b + 3)
def kG (n : Nat) (K : Nat → Nat × Nat) (R : Nat → Nat → Option Nat) (P G : Nat) (pa ga : Nat → Nat) (ru sp : Nat) : Prop :=
  (28 ≤ n ∧ P ≤ 6 ∧ G ≤ 60) ∧ (K 0 = (13, 0) ∧ K 1 = (3, 6) ∧ K 2 = (4, 60) ∧ K 3 = (0, 3) ∧ K 4 = (0, 16) ∧ K 5 = (0, 16) ∧ K 6 = (0, 16) ∧ K 7 = (0, 8)) ∧
  (R 0 0 = some 1 ∧ R 0 1 = some 2 ∧ R 0 2 = some 3 ∧ R 0 3 = some 4 ∧ R 0 4 = some 5 ∧ R 0 5 = some 6 ∧ R 0 6 = some 7) ∧ (R 0 7 = some 8 ∧ R 0 8 = some 11 ∧ R 0 9 = some 13 ∧ R 0 10 = some 17 ∧ R 0 11 = some ru ∧ R 0 12 = some sp) ∧
  kBd n K R 8 9 10 ∧ (kTp n K R 11 12 ∧ kRr n K R 17 13 14 15 16 ∧ kTo n K R 13 14 15 16) ∧ (kRu n K R 18 19 20 21 22 ∧ kRu n K R 23 24 25 26 27 ∧ ((ru = 18 ∧ sp = 23) ∨ (ru = 23 ∧ sp = 18))) ∧
  ((∀ g, g < G → R 2 g = some (ga g) ∧ 28 ≤ ga g ∧ ga g < n ∧ K (ga g) = (6, 0)) ∧ ∀ g h, g < G → h < G → ga g = ga h → g = h) ∧
  ((∀ p, p < P → R 1 p = some (pa p) ∧ kPb n K R (pa p)) ∧ ∀ p q, p < P → q < P → p ≠ q → pa p + 5 ≤ pa q ∨ pa q + 5 ≤ pa p)
theorem kG.ru {n : Nat} {K : Nat → Nat × Nat} {R : Nat → Nat → Option Nat} {P G : Nat} {pa ga : Nat → Nat} {ru sp : Nat} (h : kG n K R P G pa ga ru sp) : kRu n K R ru (ru + 1) (ru + 2) (ru + 3) (ru + 4) ∧ kRu n K R sp (sp + 1) (sp + 2) (sp + 3) (sp + 4) := by
  obtain ⟨-, -, -, -, -, -, ⟨h1, h2, h3⟩, -⟩ := h
  rcases h3 with ⟨rfl, rfl⟩ | ⟨rfl, rfl⟩
  · exact ⟨h1, h2⟩
  · exact ⟨h2, h1⟩
/-- the first game of a week in a slot -/
def kgi (J : Nat → Nat → Int32) (ga : Nat → Nat) (w s : Int32) (g : Nat) : Bool := decide (J (ga g) 5 = w) && decide (J (ga g) 8 = s)
abbrev x8_gameIn : ZX := (RX8, cX8_gameIn, 4, (some .int), "gameIn", 0, 0, false)
set_option maxHeartbeats 4000000 in
theorem l8_gameIn {n : Nat} {K : Nat → Nat × Nat} {J : Nat → Nat → Int32} {L : Nat → Nat → Int64} {R : Nat → Nat → Option Nat} {Q : Option Value → ZH → Prop} {P G : Nat} {pa ga : Nat → Nat} {ru sp : Nat} (hG : kG n K R P G pa ga ru sp) {w s : Int32} (h14 : J 0 14 = nI G) (hQ : Q (some (.int (mfind (kgi J ga w s) 0 G))) (n, K, J, L, R)) : ∀ (m j : Nat), G - j < m → j ≤ G → mfind (kgi J ga w s) j (G - j) = mfind (kgi J ga w s) 0 G → ∀ ls : Nat → Option Value, ls 0 = some (.ref 0) → ls 1 = some (.int w) → ls 2 = some (.int s) → ls 3 = some (.int (nI j)) → Zf x8_gameIn 0 0 2 ls [] (n, K, J, L, R) Q := by
  intro m
  obtain ⟨⟨hn28, hP6, hG60⟩, ⟨hk0, hk1, hk2, hk3, hk4, hk5, hk6, hk7⟩, ⟨hr0, hr1, hr2, hr3, hr4, hr5, hr6⟩, ⟨hr7, hr8, hr9, hr10, hr11, hr12⟩, hB8, ⟨hT11, hR17, hT13⟩, ⟨hU18, hU23, hrs⟩, ⟨hgm, hgi⟩, ⟨hpm, hpi⟩⟩ := id hG
  have hn0 : 0 < n := by omega
  have hn1 : 1 < n := by omega
  have hn2 : 2 < n := by omega
  have hn3 : 3 < n := by omega
  have hn4 : 4 < n := by omega
  have hn5 : 5 < n := by omega
  have hn6 : 6 < n := by omega
  have hn7 : 7 < n := by omega
  have hn8 : 8 < n := by omega
  have hk8 : K 8 = (5, 0) := hB8.2.2.2.1
  have hn11 : 11 < n := by omega
  have hk11 : K 11 = (10, 0) := hT11.2.2.1
  induction m with
  | zero => intro j h; omega
  | succ m ih =>
  intro j hm hjG hf ls hl0 hl1 hl2 hl3
  by_cases hj : j < G
  · obtain ⟨hgr, hg28, hga, hgk⟩ := hgm j hj
    refine z_iload_n (i := 3) dX8_gameIn_2 rfl hl3 ?_
    refine z_aload_n (i := 0) dX8_gameIn_3 rfl hl0 ?_
    refine z_gI zf8_81.g dX8_gameIn_4 hn0 hk0 ?_
    rw [h14]
    refine z_icmp_ge 44 dX8_gameIn_7 (by decide) (fun c_1 => absurd c_1 (fun q => by have := (zle (by omega) (by omega)).mp q; omega)) (fun _ => ?_)
    refine z_aload_n (i := 0) dX8_gameIn_10 rfl hl0 ?_
    refine z_gR zf8_17.g dX8_gameIn_11 hn0 hk0 hr1 ?_
    refine z_iload_n (i := 3) dX8_gameIn_14 rfl hl3 ?_
    refine z_aaldQ dX8_gameIn_15 hn2 hk2 (zvin (by omega) (by omega)) (by rw [zcl (by omega)]; exact hgr) ?_
    refine z_gI zf8_104 dX8_gameIn_16 hga hgk ?_
    refine z_iload_n (i := 1) dX8_gameIn_19 rfl hl1 ?_
    refine z_icmp_ne 38 dX8_gameIn_20 (by decide) (fun c_2 => ?_) (fun c_2 => ?_)
    · skip
      refine z_iinc dX8_gameIn_38 hl3 rfl ?_
      refine z_goto 2 dX8_gameIn_41 (by decide) ?_
      rw [zinc]
      rw [mfind_miss (by unfold kgi; rw [decide_eq_false c_2, Bool.false_and]) (by omega)] at hf
      exact ih (j + 1) (by omega) (by omega) (by rw [← hf]; rfl) _ hl0 hl1 hl2 rfl
    · skip
      refine z_aload_n (i := 0) dX8_gameIn_23 rfl hl0 ?_
      refine z_gR zf8_17.g dX8_gameIn_24 hn0 hk0 hr1 ?_
      refine z_iload_n (i := 3) dX8_gameIn_27 rfl hl3 ?_
      refine z_aaldQ dX8_gameIn_28 hn2 hk2 (zvin (by omega) (by omega)) (by rw [zcl (by omega)]; exact hgr) ?_
      refine z_gI zf8_172.g dX8_gameIn_29 hga hgk ?_
      refine z_iload_n (i := 2) dX8_gameIn_32 rfl hl2 ?_
      refine z_icmp_ne 38 dX8_gameIn_33 (by decide) (fun c_3 => ?_) (fun c_3 => ?_)
      · skip
        refine z_iinc dX8_gameIn_38 hl3 rfl ?_
        refine z_goto 2 dX8_gameIn_41 (by decide) ?_
        rw [zinc]
        rw [mfind_miss (by unfold kgi; rw [decide_eq_false c_3, Bool.and_false]) (by omega)] at hf
        exact ih (j + 1) (by omega) (by omega) (by rw [← hf]; rfl) _ hl0 hl1 hl2 rfl
      · skip
        refine z_iload_n (i := 3) dX8_gameIn_36 rfl hl3 ?_
        refine z_iret dX8_gameIn_37 rfl ?_
        rw [← hf, mfind_hit (by unfold kgi; rw [decide_eq_true c_2, decide_eq_true c_3]; rfl) (by omega)] at hQ
        exact hQ
  · have hje : j = G := by omega
    subst hje
    refine z_iload_n (i := 3) dX8_gameIn_2 rfl hl3 ?_
    refine z_aload_n (i := 0) dX8_gameIn_3 rfl hl0 ?_
    refine z_gI zf8_81.g dX8_gameIn_4 hn0 hk0 ?_
    rw [h14]
    refine z_icmp_ge 44 dX8_gameIn_7 (by decide) (fun _ => ?_) (fun c_1 => absurd ((zle (by omega) (by omega)).mpr (Nat.le_refl _)) c_1)
    refine z_iconst (v := (-1)) dX8_gameIn_44 (by decide) ?_
    refine z_iret dX8_gameIn_45 rfl ?_
    rw [Nat.sub_self] at hf
    rw [← hf] at hQ
    exact hQ
set_option maxHeartbeats 4000000 in
theorem c8_gameIn (n : Nat) (K : Nat → Nat × Nat) (J : Nat → Nat → Int32) (L : Nat → Nat → Int64) (R : Nat → Nat → Option Nat) (P G : Nat) (pa ga : Nat → Nat) (ru sp : Nat) (hG : kG n K R P G pa ga ru sp) (w s : Int32) (h14 : J 0 14 = nI G) : Zm yX8_gameIn cX8_gameIn 4 (some .int) 0 0 0 0 [.ref 0, .int w, .int s] ((n, K, J, L, R)) (kQ (some (.int (mfind (kgi J ga w s) 0 G))) n K J L R) := by
  refine Zm_of (lg := false) (by decide) (fun _ => by simp [Value.category]) (fun _ => Nat.le_of_ble_eq_true rfl) ?_
  show Zf x8_gameIn 0 0 0 (zargs [.ref 0, .int w, .int s]) [] ((n, K, J, L, R)) _
  refine z_iconst (v := 0) dX8_gameIn_0 (by decide) ?_
  refine z_istore_n (i := 3) dX8_gameIn_1 rfl (by decide) rfl ?_
  exact l8_gameIn hG h14 ⟨rfl, rfl⟩ (G + 1) 0 (by omega) (by omega) rfl _ rfl rfl rfl rfl
def kcnt (p : Nat → Bool) : Nat → Int32
  | 0 => 0
  | k + 1 => kcnt p k + (if p k = true then 1 else 0)
theorem kcnt_y {p : Nat → Bool} {k : Nat} (h : p k = true) : kcnt p (k + 1) = kcnt p k + 1 := by simp [kcnt, h]
theorem kcnt_n {p : Nat → Bool} {k : Nat} (h : p k = false) : kcnt p (k + 1) = kcnt p k := by simp [kcnt, h]
theorem kcnt_cong {p q : Nat → Bool} : ∀ k, (∀ j, j < k → p j = q j) → kcnt p k = kcnt q k
  | 0, _ => rfl
  | k + 1, h => by simp only [kcnt]; rw [kcnt_cong k (fun j hj => h j (by omega)), h k (by omega)]
abbrev x8_gamesThatAre : ZX := (RX8, cX8_gamesThatAre, 4, (some .int), "gamesThatAre", 0, 0, false)
set_option maxHeartbeats 4000000 in
theorem l8_gta {n : Nat} {K : Nat → Nat × Nat} {J : Nat → Nat → Int32} {L : Nat → Nat → Int64} {R : Nat → Nat → Option Nat} {Q : Option Value → ZH → Prop} {P G : Nat} {pa ga : Nat → Nat} {ru sp : Nat} (hG : kG n K R P G pa ga ru sp) {w : Int32} (h14 : J 0 14 = nI G) (hQ : Q (some (.int (kcnt (fun g => decide (J (ga g) 7 = w)) G))) (n, K, J, L, R)) : ∀ (m j : Nat), G - j < m → j ≤ G → ∀ ls : Nat → Option Value, ls 0 = some (.ref 0) → ls 1 = some (.int w) → ls 2 = some (.int (kcnt (fun g => decide (J (ga g) 7 = w)) j)) → ls 3 = some (.int (nI j)) → Zf x8_gamesThatAre 0 0 4 ls [] (n, K, J, L, R) Q := by
  intro m
  obtain ⟨⟨hn28, hP6, hG60⟩, ⟨hk0, hk1, hk2, hk3, hk4, hk5, hk6, hk7⟩, ⟨hr0, hr1, hr2, hr3, hr4, hr5, hr6⟩, ⟨hr7, hr8, hr9, hr10, hr11, hr12⟩, hB8, ⟨hT11, hR17, hT13⟩, ⟨hU18, hU23, hrs⟩, ⟨hgm, hgi⟩, ⟨hpm, hpi⟩⟩ := id hG
  have hn0 : 0 < n := by omega
  have hn1 : 1 < n := by omega
  have hn2 : 2 < n := by omega
  have hn3 : 3 < n := by omega
  have hn4 : 4 < n := by omega
  have hn5 : 5 < n := by omega
  have hn6 : 6 < n := by omega
  have hn7 : 7 < n := by omega
  have hn8 : 8 < n := by omega
  have hk8 : K 8 = (5, 0) := hB8.2.2.2.1
  have hn11 : 11 < n := by omega
  have hk11 : K 11 = (10, 0) := hT11.2.2.1
  induction m with
  | zero => intro j h; omega
  | succ m ih =>
  intro j hm hjG ls hl0 hl1 hl2 hl3
  by_cases hj : j < G
  · obtain ⟨hgr, hg28, hga, hgk⟩ := hgm j hj
    refine z_iload_n (i := 3) dX8_gamesThatAre_4 rfl hl3 ?_
    refine z_aload_n (i := 0) dX8_gamesThatAre_5 rfl hl0 ?_
    refine z_gI zf8_81.g dX8_gamesThatAre_6 hn0 hk0 ?_
    rw [h14]
    refine z_icmp_ge 34 dX8_gamesThatAre_9 (by decide) (fun c_1 => absurd c_1 (fun q => by have := (zle (by omega) (by omega)).mp q; omega)) (fun _ => ?_)
    refine z_aload_n (i := 0) dX8_gamesThatAre_12 rfl hl0 ?_
    refine z_gR zf8_17.g dX8_gamesThatAre_13 hn0 hk0 hr1 ?_
    refine z_iload_n (i := 3) dX8_gamesThatAre_16 rfl hl3 ?_
    refine z_aaldQ dX8_gamesThatAre_17 hn2 hk2 (zvin (by omega) (by omega)) (by rw [zcl (by omega)]; exact hgr) ?_
    refine z_gI zf8_107.g dX8_gamesThatAre_18 hga hgk ?_
    refine z_iload_n (i := 1) dX8_gamesThatAre_21 rfl hl1 ?_
    refine z_icmp_ne 28 dX8_gamesThatAre_22 (by decide) (fun c_2 => ?_) (fun c_2 => ?_)
    · skip
      refine z_iinc dX8_gamesThatAre_28 hl3 rfl ?_
      refine z_goto 4 dX8_gamesThatAre_31 (by decide) ?_
      rw [zinc]
      exact ih (j + 1) (by omega) (by omega) _ hl0 hl1 (by rw [kcnt_n (decide_eq_false c_2)]; exact hl2) rfl
    · skip
      refine z_iinc dX8_gamesThatAre_25 hl2 rfl ?_
      refine z_iinc dX8_gamesThatAre_28 hl3 rfl ?_
      refine z_goto 4 dX8_gamesThatAre_31 (by decide) ?_
      rw [zinc, zinc1]
      exact ih (j + 1) (by omega) (by omega) _ hl0 hl1 (by rw [kcnt_y (decide_eq_true c_2)]; rfl) rfl
  · have hje : j = G := by omega
    subst hje
    refine z_iload_n (i := 3) dX8_gamesThatAre_4 rfl hl3 ?_
    refine z_aload_n (i := 0) dX8_gamesThatAre_5 rfl hl0 ?_
    refine z_gI zf8_81.g dX8_gamesThatAre_6 hn0 hk0 ?_
    rw [h14]
    refine z_icmp_ge 34 dX8_gamesThatAre_9 (by decide) (fun _ => ?_) (fun c_1 => absurd ((zle (by omega) (by omega)).mpr (Nat.le_refl _)) c_1)
    refine z_iload_n (i := 2) dX8_gamesThatAre_34 rfl hl2 ?_
    refine z_iret dX8_gamesThatAre_35 rfl ?_
    exact hQ
set_option maxHeartbeats 4000000 in
theorem c8_gamesThatAre (n : Nat) (K : Nat → Nat × Nat) (J : Nat → Nat → Int32) (L : Nat → Nat → Int64) (R : Nat → Nat → Option Nat) (P G : Nat) (pa ga : Nat → Nat) (ru sp : Nat) (hG : kG n K R P G pa ga ru sp) (w : Int32) (h14 : J 0 14 = nI G) : Zm yX8_gamesThatAre cX8_gamesThatAre 4 (some .int) 0 0 0 0 [.ref 0, .int w] ((n, K, J, L, R)) (kQ (some (.int (kcnt (fun g => decide (J (ga g) 7 = w)) G))) n K J L R) := by
  refine Zm_of (lg := false) (by decide) (fun _ => by simp [Value.category]) (fun _ => Nat.le_of_ble_eq_true rfl) ?_
  show Zf x8_gamesThatAre 0 0 0 (zargs [.ref 0, .int w]) [] ((n, K, J, L, R)) _
  refine z_iconst (v := 0) dX8_gamesThatAre_0 (by decide) ?_
  refine z_istore_n (i := 2) dX8_gamesThatAre_1 rfl (by decide) rfl ?_
  refine z_iconst (v := 0) dX8_gamesThatAre_2 (by decide) ?_
  refine z_istore_n (i := 3) dX8_gamesThatAre_3 rfl (by decide) rfl ?_
  exact l8_gta hG h14 ⟨rfl, rfl⟩ (G + 1) 0 (by omega) (by omega) _ rfl rfl rfl rfl
abbrev x8_newGamesOf : ZX := (RX8, cX8_newGamesOf, 4, (some .int), "newGamesOf", 0, 0, false)
set_option maxHeartbeats 4000000 in
theorem l8_ngo {n : Nat} {K : Nat → Nat × Nat} {J : Nat → Nat → Int32} {L : Nat → Nat → Int64} {R : Nat → Nat → Option Nat} {Q : Option Value → ZH → Prop} {P G : Nat} {pa ga : Nat → Nat} {ru sp : Nat} (hG : kG n K R P G pa ga ru sp) {w : Int32} (h14 : J 0 14 = nI G) (hQ : Q (some (.int (kcnt (fun g => decide (J (ga g) 5 = w) && decide (J (ga g) 7 = 0)) G))) (n, K, J, L, R)) : ∀ (m j : Nat), G - j < m → j ≤ G → ∀ ls : Nat → Option Value, ls 0 = some (.ref 0) → ls 1 = some (.int w) → ls 2 = some (.int (kcnt (fun g => decide (J (ga g) 5 = w) && decide (J (ga g) 7 = 0)) j)) → ls 3 = some (.int (nI j)) → Zf x8_newGamesOf 0 0 4 ls [] (n, K, J, L, R) Q := by
  intro m
  obtain ⟨⟨hn28, hP6, hG60⟩, ⟨hk0, hk1, hk2, hk3, hk4, hk5, hk6, hk7⟩, ⟨hr0, hr1, hr2, hr3, hr4, hr5, hr6⟩, ⟨hr7, hr8, hr9, hr10, hr11, hr12⟩, hB8, ⟨hT11, hR17, hT13⟩, ⟨hU18, hU23, hrs⟩, ⟨hgm, hgi⟩, ⟨hpm, hpi⟩⟩ := id hG
  have hn0 : 0 < n := by omega
  have hn1 : 1 < n := by omega
  have hn2 : 2 < n := by omega
  have hn3 : 3 < n := by omega
  have hn4 : 4 < n := by omega
  have hn5 : 5 < n := by omega
  have hn6 : 6 < n := by omega
  have hn7 : 7 < n := by omega
  have hn8 : 8 < n := by omega
  have hk8 : K 8 = (5, 0) := hB8.2.2.2.1
  have hn11 : 11 < n := by omega
  have hk11 : K 11 = (10, 0) := hT11.2.2.1
  induction m with
  | zero => intro j h; omega
  | succ m ih =>
  intro j hm hjG ls hl0 hl1 hl2 hl3
  by_cases hj : j < G
  · obtain ⟨hgr, hg28, hga, hgk⟩ := hgm j hj
    refine z_iload_n (i := 3) dX8_newGamesOf_4 rfl hl3 ?_
    refine z_aload_n (i := 0) dX8_newGamesOf_5 rfl hl0 ?_
    refine z_gI zf8_81.g dX8_newGamesOf_6 hn0 hk0 ?_
    rw [h14]
    refine z_icmp_ge 46 dX8_newGamesOf_9 (by decide) (fun c_1 => absurd c_1 (fun q => by have := (zle (by omega) (by omega)).mp q; omega)) (fun _ => ?_)
    refine z_aload_n (i := 0) dX8_newGamesOf_12 rfl hl0 ?_
    refine z_gR zf8_17.g dX8_newGamesOf_13 hn0 hk0 hr1 ?_
    refine z_iload_n (i := 3) dX8_newGamesOf_16 rfl hl3 ?_
    refine z_aaldQ dX8_newGamesOf_17 hn2 hk2 (zvin (by omega) (by omega)) (by rw [zcl (by omega)]; exact hgr) ?_
    refine z_gI zf8_104 dX8_newGamesOf_18 hga hgk ?_
    refine z_iload_n (i := 1) dX8_newGamesOf_21 rfl hl1 ?_
    refine z_icmp_ne 40 dX8_newGamesOf_22 (by decide) (fun c_2 => ?_) (fun c_2 => ?_)
    · skip
      refine z_iinc dX8_newGamesOf_40 hl3 rfl ?_
      refine z_goto 4 dX8_newGamesOf_43 (by decide) ?_
      rw [zinc]
      exact ih (j + 1) (by omega) (by omega) _ hl0 hl1 (by rw [kcnt_n (by rw [decide_eq_false c_2, Bool.false_and])]; exact hl2) rfl
    · skip
      refine z_aload_n (i := 0) dX8_newGamesOf_25 rfl hl0 ?_
      refine z_gR zf8_17.g dX8_newGamesOf_26 hn0 hk0 hr1 ?_
      refine z_iload_n (i := 3) dX8_newGamesOf_29 rfl hl3 ?_
      refine z_aaldQ dX8_newGamesOf_30 hn2 hk2 (zvin (by omega) (by omega)) (by rw [zcl (by omega)]; exact hgr) ?_
      refine z_gI zf8_107.g dX8_newGamesOf_31 hga hgk ?_
      refine z_if_ne 40 dX8_newGamesOf_34 (by decide) (fun c_3 => ?_) (fun c_3 => ?_)
      · skip
        refine z_iinc dX8_newGamesOf_40 hl3 rfl ?_
        refine z_goto 4 dX8_newGamesOf_43 (by decide) ?_
        rw [zinc]
        exact ih (j + 1) (by omega) (by omega) _ hl0 hl1 (by rw [kcnt_n (by rw [decide_eq_false c_3, Bool.and_false])]; exact hl2) rfl
      · skip
        refine z_iinc dX8_newGamesOf_37 hl2 rfl ?_
        refine z_iinc dX8_newGamesOf_40 hl3 rfl ?_
        refine z_goto 4 dX8_newGamesOf_43 (by decide) ?_
        rw [zinc, zinc1]
        exact ih (j + 1) (by omega) (by omega) _ hl0 hl1 (by rw [kcnt_y (by rw [decide_eq_true c_2, decide_eq_true c_3]; rfl)]; rfl) rfl
  · have hje : j = G := by omega
    subst hje
    refine z_iload_n (i := 3) dX8_newGamesOf_4 rfl hl3 ?_
    refine z_aload_n (i := 0) dX8_newGamesOf_5 rfl hl0 ?_
    refine z_gI zf8_81.g dX8_newGamesOf_6 hn0 hk0 ?_
    rw [h14]
    refine z_icmp_ge 46 dX8_newGamesOf_9 (by decide) (fun _ => ?_) (fun c_1 => absurd ((zle (by omega) (by omega)).mpr (Nat.le_refl _)) c_1)
    refine z_iload_n (i := 2) dX8_newGamesOf_46 rfl hl2 ?_
    refine z_iret dX8_newGamesOf_47 rfl ?_
    exact hQ
set_option maxHeartbeats 4000000 in
theorem c8_newGamesOf (n : Nat) (K : Nat → Nat × Nat) (J : Nat → Nat → Int32) (L : Nat → Nat → Int64) (R : Nat → Nat → Option Nat) (P G : Nat) (pa ga : Nat → Nat) (ru sp : Nat) (hG : kG n K R P G pa ga ru sp) (w : Int32) (h14 : J 0 14 = nI G) : Zm yX8_newGamesOf cX8_newGamesOf 4 (some .int) 0 0 0 0 [.ref 0, .int w] ((n, K, J, L, R)) (kQ (some (.int (kcnt (fun g => decide (J (ga g) 5 = w) && decide (J (ga g) 7 = 0)) G))) n K J L R) := by
  refine Zm_of (lg := false) (by decide) (fun _ => by simp [Value.category]) (fun _ => Nat.le_of_ble_eq_true rfl) ?_
  show Zf x8_newGamesOf 0 0 0 (zargs [.ref 0, .int w]) [] ((n, K, J, L, R)) _
  refine z_iconst (v := 0) dX8_newGamesOf_0 (by decide) ?_
  refine z_istore_n (i := 2) dX8_newGamesOf_1 rfl (by decide) rfl ?_
  refine z_iconst (v := 0) dX8_newGamesOf_2 (by decide) ?_
  refine z_istore_n (i := 3) dX8_newGamesOf_3 rfl (by decide) rfl ?_
  exact l8_ngo hG h14 ⟨rfl, rfl⟩ (G + 1) 0 (by omega) (by omega) _ rfl rfl rfl rfl
def ksm (f : Nat → Int32) : Nat → Int32
  | 0 => 0
  | k + 1 => ksm f k + f k
abbrev x8_allHoursShut : ZX := (RX8, cX8_allHoursShut, 3, (some .int), "allHoursShut", 0, 0, false)
set_option maxHeartbeats 4000000 in
theorem l8_ahs {n : Nat} {K : Nat → Nat × Nat} {J : Nat → Nat → Int32} {L : Nat → Nat → Int64} {R : Nat → Nat → Option Nat} {Q : Option Value → ZH → Prop} {P G : Nat} {pa ga : Nat → Nat} {ru sp : Nat} (hG : kG n K R P G pa ga ru sp) (h13 : J 0 13 = nI P) (hQ : Q (some (.int (ksm (fun p => J (pa p) 4) P))) (n, K, J, L, R)) : ∀ (m j : Nat), P - j < m → j ≤ P → ∀ ls : Nat → Option Value, ls 0 = some (.ref 0) → ls 1 = some (.int (ksm (fun p => J (pa p) 4) j)) → ls 2 = some (.int (nI j)) → Zf x8_allHoursShut 0 0 4 ls [] (n, K, J, L, R) Q := by
  intro m
  obtain ⟨⟨hn28, hP6, hG60⟩, ⟨hk0, hk1, hk2, hk3, hk4, hk5, hk6, hk7⟩, ⟨hr0, hr1, hr2, hr3, hr4, hr5, hr6⟩, ⟨hr7, hr8, hr9, hr10, hr11, hr12⟩, hB8, ⟨hT11, hR17, hT13⟩, ⟨hU18, hU23, hrs⟩, ⟨hgm, hgi⟩, ⟨hpm, hpi⟩⟩ := id hG
  have hn0 : 0 < n := by omega
  have hn1 : 1 < n := by omega
  have hn2 : 2 < n := by omega
  have hn3 : 3 < n := by omega
  have hn4 : 4 < n := by omega
  have hn5 : 5 < n := by omega
  have hn6 : 6 < n := by omega
  have hn7 : 7 < n := by omega
  have hn8 : 8 < n := by omega
  have hk8 : K 8 = (5, 0) := hB8.2.2.2.1
  have hn11 : 11 < n := by omega
  have hk11 : K 11 = (10, 0) := hT11.2.2.1
  induction m with
  | zero => intro j h; omega
  | succ m ih =>
  intro j hm hjG ls hl0 hl1 hl2
  by_cases hj : j < P
  · obtain ⟨hpr, hpb⟩ := hpm j hj
    obtain ⟨hp28, hp5, hpk, htn0, htr0, hpn, hpo⟩ := id hpb
    obtain ⟨htna, hcna, htnk, hcnk, htn⟩ := id htn0
    obtain ⟨htra, hcoa, htrk, hcok, htr⟩ := id htr0
    have hpa : pa j < n := by omega
    refine z_iload_n (i := 2) dX8_allHoursShut_4 rfl hl2 ?_
    refine z_aload_n (i := 0) dX8_allHoursShut_5 rfl hl0 ?_
    refine z_gI zf8_77.g dX8_allHoursShut_6 hn0 hk0 ?_
    rw [h13]
    refine z_icmp_ge 30 dX8_allHoursShut_9 (by decide) (fun c_1 => absurd c_1 (fun q => by have := (zle (by omega) (by omega)).mp q; omega)) (fun _ => ?_)
    refine z_iload_n (i := 1) dX8_allHoursShut_12 rfl hl1 ?_
    refine z_aload_n (i := 0) dX8_allHoursShut_13 rfl hl0 ?_
    refine z_gR zf8_11.g dX8_allHoursShut_14 hn0 hk0 hr0 ?_
    refine z_iload_n (i := 2) dX8_allHoursShut_17 rfl hl2 ?_
    refine z_aaldP dX8_allHoursShut_18 hn1 hk1 (zvin (by omega) (by omega)) (by rw [zcl (by omega)]; exact hpr) ?_
    refine z_gI zf8_196.g dX8_allHoursShut_19 hpa hpk ?_
    refine z_iadd dX8_allHoursShut_22 ?_
    refine z_istore_n (i := 1) dX8_allHoursShut_23 rfl (by decide) rfl ?_
    refine z_iinc dX8_allHoursShut_24 hl2 rfl ?_
    refine z_goto 4 dX8_allHoursShut_27 (by decide) ?_
    rw [zinc]
    exact ih (j + 1) (by omega) (by omega) _ hl0 rfl rfl
  · have hje : j = P := by omega
    subst hje
    refine z_iload_n (i := 2) dX8_allHoursShut_4 rfl hl2 ?_
    refine z_aload_n (i := 0) dX8_allHoursShut_5 rfl hl0 ?_
    refine z_gI zf8_77.g dX8_allHoursShut_6 hn0 hk0 ?_
    rw [h13]
    refine z_icmp_ge 30 dX8_allHoursShut_9 (by decide) (fun _ => ?_) (fun c_1 => absurd ((zle (by omega) (by omega)).mpr (Nat.le_refl _)) c_1)
    refine z_iload_n (i := 1) dX8_allHoursShut_30 rfl hl1 ?_
    refine z_iret dX8_allHoursShut_31 rfl ?_
    exact hQ
set_option maxHeartbeats 4000000 in
theorem c8_allHoursShut (n : Nat) (K : Nat → Nat × Nat) (J : Nat → Nat → Int32) (L : Nat → Nat → Int64) (R : Nat → Nat → Option Nat) (P G : Nat) (pa ga : Nat → Nat) (ru sp : Nat) (hG : kG n K R P G pa ga ru sp) (h13 : J 0 13 = nI P) : Zm yX8_allHoursShut cX8_allHoursShut 3 (some .int) 0 0 0 0 [.ref 0] ((n, K, J, L, R)) (kQ (some (.int (ksm (fun p => J (pa p) 4) P))) n K J L R) := by
  refine Zm_of (lg := false) (by decide) (fun _ => by simp [Value.category]) (fun _ => Nat.le_of_ble_eq_true rfl) ?_
  show Zf x8_allHoursShut 0 0 0 (zargs [.ref 0]) [] ((n, K, J, L, R)) _
  refine z_iconst (v := 0) dX8_allHoursShut_0 (by decide) ?_
  refine z_istore_n (i := 1) dX8_allHoursShut_1 rfl (by decide) rfl ?_
  refine z_iconst (v := 0) dX8_allHoursShut_2 (by decide) ?_
  refine z_istore_n (i := 2) dX8_allHoursShut_3 rfl (by decide) rfl ?_
  exact l8_ahs hG h13 ⟨rfl, rfl⟩ (P + 1) 0 (by omega) (by omega) _ rfl rfl rfl
