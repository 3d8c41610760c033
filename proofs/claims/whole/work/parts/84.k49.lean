abbrev x8_day : ZX := (RX8, cX8_day, 6, (some .int), "day", 6, 240, false)
theorem mdp_0 (I : Nat → Nat → Int32) (P G D : Nat) (ts : List MLn) (h : Nat) (warm wet : Int32) : mdp I P G D ts h warm wet 0 = I := rfl
theorem mdp_s (I : Nat → Nat → Int32) (P G D : Nat) (ts : List MLn) (h : Nat) (warm wet : Int32) (j : Nat) : mdp I P G D ts h warm wet (j + 1) = mhour (mdp I P G D ts h warm wet j) P G D ts h j warm wet := rfl
theorem mdh_0 (I : Nat → Nat → Int32) (P G D : Nat) (ts : List MLn) (warm wet : Int32) : mdh I P G D ts warm wet 0 = I := rfl
theorem mdh_s (I : Nat → Nat → Int32) (P G D : Nat) (ts : List MLn) (warm wet : Int32) (i : Nat) : mdh I P G D ts warm wet (i + 1) = mdp (mdh I P G D ts warm wet i) P G D ts i warm wet P := rfl
set_option maxHeartbeats 4000000 in
theorem l8_dayP {n : Nat} {K : Nat → Nat × Nat} {J : Nat → Nat → Int32} {L : Nat → Nat → Int64} {R : Nat → Nat → Option Nat} {Q : Option Value → ZH → Prop} {P G : Nat} {pa ga : Nat → Nat} {ru sp : Nat} (hG : kG n K R P G pa ga ru sp) {D W wm wt : Nat} {ts : List MLn} (hD : D ≤ 356) (hWD : W = D / 7) (hwm : wm ≤ 10) (hwt : wt ≤ 10) {Ih : Nat → Nat → Int32} {h : Nat} (hh : h < 4) (hend : ∀ (M2 : Nat → Nat → Int32) (ls2 : Nat → Option Value), kDs M2 (mdp Ih P G D ts h (nI wm) (nI wt) P) P G D (24 * D + 6 * h + P) W pa ga ru ts (nI wm) (nI wt) → (M2 11 = J 11 ∧ M2 12 = J 12) → ls2 0 = some (.ref 0) → ls2 1 = some (.int (nI wm)) → ls2 2 = some (.int (nI wt)) → ls2 3 = some (.int (nI D)) → ls2 4 = some (.int (nI h)) → Zf x8_day 0 0 116 ls2 [] (n, K, M2, L, R) Q) : ∀ (m j : Nat) (M : Nat → Nat → Int32) (ls : Nat → Option Value), P - j < m → j ≤ P → kDs M (mdp Ih P G D ts h (nI wm) (nI wt) j) P G D (24 * D + 6 * h + j) W pa ga ru ts (nI wm) (nI wt) → (M 11 = J 11 ∧ M 12 = J 12) → ls 0 = some (.ref 0) → ls 1 = some (.int (nI wm)) → ls 2 = some (.int (nI wt)) → ls 3 = some (.int (nI D)) → ls 4 = some (.int (nI h)) → ls 5 = some (.int (nI j)) → Zf x8_day 0 0 92 ls [] (n, K, M, L, R) Q := by
  intro m
  obtain ⟨⟨hn28, hP6, hG60⟩, ⟨hk0, hk1, hk2, hk3, hk4, hk5, hk6, hk7⟩, ⟨hr0, hr1, hr2, hr3, hr4, hr5, hr6⟩, ⟨hr7, hr8, hr9, hr10, hr11, hr12⟩, hB8, ⟨hT11, hR17, hT13⟩, ⟨hU18, hU23, hrs⟩, ⟨hgm, hgi⟩, ⟨hpm, hpi⟩⟩ := id hG
  have hn0 : 0 < n := by omega
  have hn1 : 1 < n := by omega
  have hn2 : 2 < n := by omega
  have hn3 : 3 < n := by omega
  have hn4 : 4 < n := by omega
  have hn5 : 5 < n := by omega
  have hn6 : 6 < n := by omega
  have hn7 : 7 < n := by omega
  have hn8 : 8 < n := by omega
  have hk8 : K 8 = (5, 0) := hB8.2.2.2.1
  have hn11 : 11 < n := by omega
  have hk11 : K 11 = (10, 0) := hT11.2.2.1
  induction m with
  | zero => intro j M ls h; omega
  | succ m ih =>
  intro j M ls hm hjP hs hF hl0 hl1 hl2 hl3 hl4 hl5
  have h13 := hs.1.1.1
  by_cases hj : j < P
  · have hph := c8_passHour n K M L R P G pa ga ru sp hG (mdp Ih P G D ts h (nI wm) (nI wt) j) D W h j wt ts (nI wm) (nI wt) hD hWD hh hj hwt rfl hs
    refine z_iload dX8_day_92 hl5 ?_
    refine z_aload_n (i := 0) dX8_day_94 rfl hl0 ?_
    refine z_gI zf8_77.g dX8_day_95 hn0 hk0 ?_
    rw [h13]
    refine z_icmp_ge 116 dX8_day_98 (by decide) (fun c_1 => absurd c_1 (fun q => by have := (zle (by omega) (by omega)).mp q; omega)) (fun _ => ?_)
    refine z_aload_n (i := 0) dX8_day_101 rfl hl0 ?_
    refine z_iload_n (i := 3) dX8_day_102 rfl hl3 ?_
    refine z_iload dX8_day_103 hl4 ?_
    refine z_iload dX8_day_105 hl5 ?_
    refine z_callV (st := []) (mc2 := 0) (ms2 := 0) zi8_139 zv_yX8_passHour hph dX8_day_107 hn0 (congrArg Prod.fst hk0) rfl rfl rfl (by decide) (by decide) (Nat.le_of_ble_eq_true rfl) (by decide) (by decide) (fun r h2 hq => ?_)
    obtain ⟨rfl, M2, rfl, hs2, f1, f2⟩ := hq
    try simp only [Option.toList, List.nil_append]
    refine z_iinc dX8_day_110 hl5 rfl ?_
    refine z_goto 92 dX8_day_113 (by decide) ?_
    rw [zinc]
    rw [← mdp_s] at hs2
    exact ih (j + 1) M2 _ (by omega) (by omega) hs2 ⟨f1.trans hF.1, f2.trans hF.2⟩ hl0 hl1 hl2 hl3 hl4 rfl
  · have hje : j = P := by omega
    subst hje
    refine z_iload dX8_day_92 hl5 ?_
    refine z_aload_n (i := 0) dX8_day_94 rfl hl0 ?_
    refine z_gI zf8_77.g dX8_day_95 hn0 hk0 ?_
    rw [h13]
    refine z_icmp_ge 116 dX8_day_98 (by decide) (fun _ => ?_) (fun c_1 => absurd ((zle (by omega) (by omega)).mpr (Nat.le_refl _)) c_1)
    exact hend M ls hs hF hl0 hl1 hl2 hl3 hl4
set_option maxHeartbeats 4000000 in
theorem l8_dayH {n : Nat} {K : Nat → Nat × Nat} {J : Nat → Nat → Int32} {L : Nat → Nat → Int64} {R : Nat → Nat → Option Nat} {Q : Option Value → ZH → Prop} {P G : Nat} {pa ga : Nat → Nat} {ru sp : Nat} (hG : kG n K R P G pa ga ru sp) {D W wm wt : Nat} {ts : List MLn} (hD : D ≤ 356) (hWD : W = D / 7) (hwm : wm ≤ 10) (hwt : wt ≤ 10) {I1 : Nat → Nat → Int32} (hend : ∀ (M2 : Nat → Nat → Int32) (ls2 : Nat → Option Value), kDs M2 (mdh I1 P G D ts (nI wm) (nI wt) 4) P G D (24 * D + 24) W pa ga ru ts (nI wm) (nI wt) → (M2 11 = J 11 ∧ M2 12 = J 12) → ls2 0 = some (.ref 0) → ls2 1 = some (.int (nI wm)) → ls2 2 = some (.int (nI wt)) → ls2 3 = some (.int (nI D)) → Zf x8_day 0 0 122 ls2 [] (n, K, M2, L, R) Q) : ∀ (m h : Nat) (M : Nat → Nat → Int32) (ls : Nat → Option Value), 4 - h < m → h ≤ 4 → kDs M (mdh I1 P G D ts (nI wm) (nI wt) h) P G D (24 * D + 6 * h) W pa ga ru ts (nI wm) (nI wt) → (M 11 = J 11 ∧ M 12 = J 12) → ls 0 = some (.ref 0) → ls 1 = some (.int (nI wm)) → ls 2 = some (.int (nI wt)) → ls 3 = some (.int (nI D)) → ls 4 = some (.int (nI h)) → Zf x8_day 0 0 83 ls [] (n, K, M, L, R) Q := by
  intro m
  obtain ⟨⟨hn28, hP6, hG60⟩, ⟨hk0, hk1, hk2, hk3, hk4, hk5, hk6, hk7⟩, ⟨hr0, hr1, hr2, hr3, hr4, hr5, hr6⟩, ⟨hr7, hr8, hr9, hr10, hr11, hr12⟩, hB8, ⟨hT11, hR17, hT13⟩, ⟨hU18, hU23, hrs⟩, ⟨hgm, hgi⟩, ⟨hpm, hpi⟩⟩ := id hG
  have hn0 : 0 < n := by omega
  have hn1 : 1 < n := by omega
  have hn2 : 2 < n := by omega
  have hn3 : 3 < n := by omega
  have hn4 : 4 < n := by omega
  have hn5 : 5 < n := by omega
  have hn6 : 6 < n := by omega
  have hn7 : 7 < n := by omega
  have hn8 : 8 < n := by omega
  have hk8 : K 8 = (5, 0) := hB8.2.2.2.1
  have hn11 : 11 < n := by omega
  have hk11 : K 11 = (10, 0) := hT11.2.2.1
  induction m with
  | zero => intro h M ls hh; omega
  | succ m ih =>
  intro h M ls hm hh4 hs hF hl0 hl1 hl2 hl3 hl4
  by_cases hh : h < 4
  · skip
    refine z_iload dX8_day_83 hl4 ?_
    refine z_iconst (v := 4) dX8_day_85 (by decide) ?_
    refine z_icmp_ge 122 dX8_day_86 (by decide) (fun c_1 => absurd c_1 (fun q => by have := (zle (a := 4) (b := h) (by omega) (by omega)).mp q; omega)) (fun _ => ?_)
    refine z_iconst (v := 0) dX8_day_89 (by decide) ?_
    refine z_istore (i := 5) dX8_day_90 (by decide) rfl ?_
    rw [← mdp_0 (mdh I1 P G D ts (nI wm) (nI wt) h) P G D ts h (nI wm) (nI wt)] at hs
    refine l8_dayP (J := J) (Ih := mdh I1 P G D ts (nI wm) (nI wt) h) hG hD hWD hwm hwt hh (fun M2 ls2 hs2 hF2 q0 q1 q2 q3 q4 => ?_) (P + 1) 0 M _ (by omega) (by omega) hs hF hl0 hl1 hl2 hl3 hl4 rfl
    refine z_iinc dX8_day_116 q4 rfl ?_
    refine z_goto 83 dX8_day_119 (by decide) ?_
    rw [zinc]
    rw [← mdh_s] at hs2
    exact ih (h + 1) M2 _ (by omega) (by omega) ⟨hs2.1, kOk_le hs2.2.1 (by omega), hs2.2.2⟩ hF2 q0 q1 q2 q3 rfl
  · have hhe : h = 4 := by omega
    subst hhe
    refine z_iload dX8_day_83 hl4 ?_
    refine z_iconst (v := 4) dX8_day_85 (by decide) ?_
    refine z_icmp_ge 122 dX8_day_86 (by decide) (fun _ => ?_) (fun c_1 => absurd ((zle (a := 4) (b := 4) (by omega) (by omega)).mpr (by omega)) c_1)
    exact hend M ls hs hF hl0 hl1 hl2 hl3
set_option maxHeartbeats 4000000 in
theorem l8_dayG {n : Nat} {K : Nat → Nat × Nat} {J : Nat → Nat → Int32} {L : Nat → Nat → Int64} {R : Nat → Nat → Option Nat} {Q : Option Value → ZH → Prop} {P G : Nat} {pa ga : Nat → Nat} {ru sp : Nat} (hG : kG n K R P G pa ga ru sp) {D W wm wt : Nat} {ts : List MLn} (hD : D ≤ 356) (hWD : W = D / 7) (hwm : wm ≤ 10) (hwt : wt ≤ 10) {Id : Nat → Nat → Int32} (he : kIe Id P) (hend : ∀ (M2 : Nat → Nat → Int32) (ls2 : Nat → Option Value), kD M2 (mg2 Id (nI wm) (nI wt) (24 * P)) P G D pa ga → (∀ a, a < 28 → M2 a = J a) → ls2 0 = some (.ref 0) → ls2 1 = some (.int (nI wm)) → ls2 2 = some (.int (nI wt)) → ls2 3 = some (.int (nI D)) → Zf x8_day 0 0 170 ls2 [] (n, K, M2, L, R) Q) : ∀ (m j : Nat) (M : Nat → Nat → Int32) (ls : Nat → Option Value), P - j < m → j ≤ P → kD M (mg2 Id (nI wm) (nI wt) (24 * j)) P G D pa ga → (∀ a, a < 28 → M a = J a) → ls 0 = some (.ref 0) → ls 1 = some (.int (nI wm)) → ls 2 = some (.int (nI wt)) → ls 3 = some (.int (nI D)) → ls 4 = some (.int (nI j)) → Zf x8_day 0 0 125 ls [] (n, K, M, L, R) Q := by
  intro m
  obtain ⟨⟨hn28, hP6, hG60⟩, ⟨hk0, hk1, hk2, hk3, hk4, hk5, hk6, hk7⟩, ⟨hr0, hr1, hr2, hr3, hr4, hr5, hr6⟩, ⟨hr7, hr8, hr9, hr10, hr11, hr12⟩, hB8, ⟨hT11, hR17, hT13⟩, ⟨hU18, hU23, hrs⟩, ⟨hgm, hgi⟩, ⟨hpm, hpi⟩⟩ := id hG
  have hn0 : 0 < n := by omega
  have hn1 : 1 < n := by omega
  have hn2 : 2 < n := by omega
  have hn3 : 3 < n := by omega
  have hn4 : 4 < n := by omega
  have hn5 : 5 < n := by omega
  have hn6 : 6 < n := by omega
  have hn7 : 7 < n := by omega
  have hn8 : 8 < n := by omega
  have hk8 : K 8 = (5, 0) := hB8.2.2.2.1
  have hn11 : 11 < n := by omega
  have hk11 : K 11 = (10, 0) := hT11.2.2.1
  induction m with
  | zero => intro j M ls h; omega
  | succ m ih =>
  intro j M ls hm hjP hs hF hl0 hl1 hl2 hl3 hl4
  have h13 := hs.1.1
  by_cases hj : j < P
  · obtain ⟨hpr, hpb⟩ := hpm j hj
    obtain ⟨hp28, hp5, hpk, htn0, htr0, hpn, hpo⟩ := id hpb
    obtain ⟨htna, hcna, htnk, hcnk, htn⟩ := id htn0
    obtain ⟨htra, hcoa, htrk, hcok, htr⟩ := id htr0
    have hpa : pa j < n := by omega
    have D1 := kD_grow hG hwm hwt he hs hj
    refine z_iload dX8_day_125 hl4 ?_
    refine z_aload_n (i := 0) dX8_day_127 rfl hl0 ?_
    refine z_gI zf8_77.g dX8_day_128 hn0 hk0 ?_
    rw [h13]
    refine z_icmp_ge 170 dX8_day_131 (by decide) (fun c_1 => absurd c_1 (fun q => by have := (zle (by omega) (by omega)).mp q; omega)) (fun _ => ?_)
    refine z_aload_n (i := 0) dX8_day_134 rfl hl0 ?_
    refine z_gR zf8_11.g dX8_day_135 hn0 hk0 hr0 ?_
    refine z_iload dX8_day_138 hl4 ?_
    refine z_aaldP dX8_day_140 hn1 hk1 (zvin (by omega) (by omega)) (by rw [zcl (by omega)]; exact hpr) ?_
    refine z_gR zf8_143 dX8_day_141 hpa hpk hpn ?_
    refine z_iload_n (i := 1) dX8_day_144 rfl hl1 ?_
    refine z_iload_n (i := 2) dX8_day_145 rfl hl2 ?_
    refine z_callV (st := []) (mc2 := 0) (ms2 := 0) zi8_147 zv_yX7_grow (c7_grow n K M L R (pa j + 1) (pa j + 2) (nI wm) (nI wt) htn0) dX8_day_146 htna (congrArg Prod.fst htnk) rfl rfl rfl (by decide) (by decide) (Nat.le_of_ble_eq_true rfl) (by decide) (by decide) (fun r h2 hq => ?_)
    obtain ⟨rfl, rfl⟩ := hq
    try simp only [Option.toList, List.nil_append]
    refine z_aload_n (i := 0) dX8_day_149 rfl hl0 ?_
    refine z_gR zf8_11.g dX8_day_150 hn0 hk0 hr0 ?_
    refine z_iload dX8_day_153 hl4 ?_
    refine z_aaldP dX8_day_155 hn1 hk1 (zvin (by omega) (by omega)) (by rw [zcl (by omega)]; exact hpr) ?_
    refine z_gR zf8_153 dX8_day_156 hpa hpk hpo ?_
    refine z_iload_n (i := 1) dX8_day_159 rfl hl1 ?_
    refine z_iload_n (i := 2) dX8_day_160 rfl hl2 ?_
    refine z_callV (st := []) (mc2 := 0) (ms2 := 0) zi8_147 zv_yX7_grow (c7_grow n K _ L R (pa j + 3) (pa j + 4) (nI wm) (nI wt) htr0) dX8_day_161 htra (congrArg Prod.fst htrk) rfl rfl rfl (by decide) (by decide) (Nat.le_of_ble_eq_true rfl) (by decide) (by decide) (fun r h2 hq => ?_)
    obtain ⟨rfl, rfl⟩ := hq
    try simp only [Option.toList, List.nil_append]
    refine z_iinc dX8_day_164 hl4 rfl ?_
    refine z_goto 125 dX8_day_167 (by decide) ?_
    rw [zinc]
    refine ih (j + 1) _ _ (by omega) (by omega) D1 (fun a ha => ?_) hl0 hl1 hl2 hl3 rfl
    funext k
    unfold tgI
    rw [if_neg (by omega), if_neg (by omega), hF a ha]
  · have hje : j = P := by omega
    subst hje
    refine z_iload dX8_day_125 hl4 ?_
    refine z_aload_n (i := 0) dX8_day_127 rfl hl0 ?_
    refine z_gI zf8_77.g dX8_day_128 hn0 hk0 ?_
    rw [h13]
    refine z_icmp_ge 170 dX8_day_131 (by decide) (fun _ => ?_) (fun c_1 => absurd ((zle (by omega) (by omega)).mpr (Nat.le_refl _)) c_1)
    exact hend M ls hs hF hl0 hl1 hl2 hl3
theorem mpn_id {I : Nat → Nat → Int32} {D m : Nat} (h : ¬ D % 7 = 0) : mpn I D m = I := by
  funext a j
  unfold mpn
  rw [if_neg (fun q => h q.2.2)]
theorem kD_day {n : Nat} {K : Nat → Nat × Nat} {R : Nat → Nat → Option Nat} {P G D : Nat} {pa ga : Nat → Nat} {ru sp : Nat} {J I : Nat → Nat → Int32} (hG : kG n K R P G pa ga ru sp) (h : kD J I P G D pa ga) : kD (zu J 0 15 (nI (D + 1))) (zu I 0 34 (nI (D + 1))) P G (D + 1) pa ga := by
  obtain ⟨-, -, -, -, -, -, -, ⟨hgm, -⟩, ⟨hpm, -⟩⟩ := hG
  obtain ⟨⟨s1, s2, s3⟩, h2, h3, h4, h5⟩ := h
  have e : ∀ a, a ≠ 0 → zu J 0 15 (nI (D + 1)) a = J a := fun a ha => zu_ne _ _ _ ha
  have eI : ∀ a, a ≠ 0 → zu I 0 34 (nI (D + 1)) a = I a := fun a ha => zu_ne _ _ _ ha
  refine ⟨⟨by rw [zu_apply, if_neg (by omega)]; exact s1, by rw [zu_apply, if_neg (by omega)]; exact s2, by rw [zu_apply, if_pos ⟨rfl, rfl⟩]⟩, fun g hg => kGm_cong (h2 g hg) (e _ (by have := (hgm g hg).2.1; omega)) (fun a x y => by rw [eI a (by omega)]), fun p hp => kPm_cong (h3 p hp) (fun a x y => e a (by have := (hpm p hp).2.1; omega)) (fun a x y _ _ => by rw [eI a (by omega)]) (fun k _ => ⟨by rw [eI 18 (by decide)], by rw [eI 19 (by decide)]⟩), kTr_cong h4 (e 3 (by decide)) (eI 16 (by decide)), kCl_cong h5 (e 4 (by decide)) (e 5 (by decide)) (e 6 (by decide)) (fun a ha => eI a (by omega))⟩
theorem kIe_thr {I : Nat → Nat → Int32} {P : Nat} (h : kIe I P) (k : Nat) (v : Int32) : kIe (zu I 0 k v) P := kIe_cong h (zu_ne _ _ _ (by decide)) (zu_ne _ _ _ (by decide))
/-- the keeper's day: its answer, and the reference's ints behind it -/
abbrev kQday (n : Nat) (K : Nat → Nat × Nat) (J : Nat → Nat → Int32) (L : Nat → Nat → Int64) (R : Nat → Nat → Option Nat) (P G D D' : Nat) (pa ga : Nat → Nat) (ru : Nat) (ts : List MLn) (v : Int32) (I' : Nat → Nat → Int32) : Option Value → ZH → Prop := fun r h => r = some (.int v) ∧ ∃ M, h = (n, K, M, L, R) ∧ kD M I' P G D' pa ga ∧ kOk I' P G (24 * D') ∧ kTxt M ru (ru + 1) (ru + 2) (ru + 3) ts ∧ kIe I' P ∧ M 11 = J 11 ∧ M 12 = J 12
set_option maxHeartbeats 4000000 in
theorem c8_day (n : Nat) (K : Nat → Nat × Nat) (J : Nat → Nat → Int32) (L : Nat → Nat → Int64) (R : Nat → Nat → Option Nat) (P G : Nat) (pa ga : Nat → Nat) (ru sp : Nat) (hG : kG n K R P G pa ga ru sp) (I : Nat → Nat → Int32) (D wm wt : Nat) (ts : List MLn) (hD : D ≤ 356) (hwm : wm ≤ 10) (hwt : wt ≤ 10) (hKD : kD J I P G D pa ga) (hok : kOk I P G (24 * D)) (hx : kTxt J ru (ru + 1) (ru + 2) (ru + 3) ts) (hie : kIe I P) : Zm yX8_day cX8_day 6 (some .int) 6 240 0 0 [.ref 0, .int (nI wm), .int (nI wt)] (n, K, J, L, R) (kQday n K J L R P G D (D + 1) pa ga ru ts (nI D) (zu (mg2 (mdh (mpn I D P) P G D ts (nI wm) (nI wt) 4) (nI wm) (nI wt) (24 * P)) 0 34 (nI (D + 1)))) := by
  refine Zm_of (lg := false) (by decide) (fun _ => by simp [Value.category]) (fun _ => Nat.le_of_ble_eq_true rfl) ?_
  show Zf x8_day 0 0 0 (zargs [.ref 0, .int (nI wm), .int (nI wt)]) [] (n, K, J, L, R) _
  generalize hQ0 : (kQday n K J L R P G D (D + 1) pa ga ru ts (nI D) (zu (mg2 (mdh (mpn I D P) P G D ts (nI wm) (nI wt) 4) (nI wm) (nI wt) (24 * P)) 0 34 (nI (D + 1))) : Option Value → ZH → Prop) = Q0
  obtain ⟨⟨hn28, hP6, hG60⟩, ⟨hk0, hk1, hk2, hk3, hk4, hk5, hk6, hk7⟩, ⟨hr0, hr1, hr2, hr3, hr4, hr5, hr6⟩, ⟨hr7, hr8, hr9, hr10, hr11, hr12⟩, hB8, ⟨hT11, hR17, hT13⟩, ⟨hU18, hU23, hrs⟩, ⟨hgm, hgi⟩, ⟨hpm, hpi⟩⟩ := id hG
  have hn0 : 0 < n := by omega
  have hn1 : 1 < n := by omega
  have hn2 : 2 < n := by omega
  have hn3 : 3 < n := by omega
  have hn4 : 4 < n := by omega
  have hn5 : 5 < n := by omega
  have hn6 : 6 < n := by omega
  have hn7 : 7 < n := by omega
  have hn8 : 8 < n := by omega
  have hk8 : K 8 = (5, 0) := hB8.2.2.2.1
  have hn11 : 11 < n := by omega
  have hk11 : K 11 = (10, 0) := hT11.2.2.1
  obtain ⟨⟨h13, h14, h15⟩, hdg, hdp, hdt, hdc⟩ := id hKD
  have hrr : ru = 18 ∨ ru = 23 := hrs.imp (fun q => q.1) (fun q => q.1)
  -- from the told row on
  have h56 : ∀ (M : Nat → Nat → Int32) (ls : Nat → Option Value), kD M (mpn I D P) P G D pa ga → kBw M I G (D / 7) → (∀ a, a < 28 → a ≠ 9 → a ≠ 10 → M a = J a) → ls 0 = some (.ref 0) → ls 1 = some (.int (nI wm)) → ls 2 = some (.int (nI wt)) → ls 3 = some (.int (nI D)) → Zf x8_day 0 0 56 ls [] (n, K, M, L, R) Q0 := by
    intro M ls KD1 B1 F1 hl0 hl1 hl2 hl3
    have KD2 : kD (zu (zu (zu M 7 0 (nI wt)) 7 1 (nI wm)) 7 5 (nI (D % 7))) (mpn I D P) P G D pa ga := kD_out hG KD1 (fun a ha => by rw [zu_ne _ _ _ (fun q => ha (by unfold kOut; omega)), zu_ne _ _ _ (fun q => ha (by unfold kOut; omega)), zu_ne _ _ _ (fun q => ha (by unfold kOut; omega))])
    have e7 : ∀ a, a ≠ 7 → zu (zu (zu M 7 0 (nI wt)) 7 1 (nI wm)) 7 5 (nI (D % 7)) a = M a := fun a ha => by rw [zu_ne _ _ _ ha, zu_ne _ _ _ ha, zu_ne _ _ _ ha]
    have S2 : kDs (zu (zu (zu M 7 0 (nI wt)) 7 1 (nI wm)) 7 5 (nI (D % 7))) (mpn I D P) P G D (24 * D) (D / 7) pa ga ru ts (nI wm) (nI wt) := by
      refine ⟨KD2, kOk_I hok (fun a u v => mpn_ne I D P (by omega)), kBw_I (kBw_cong B1 (e7 9 (by decide)) (e7 10 (by decide))) (fun a ha => mpn_ne I D P (by omega)) (fun k _ => by unfold mth; rw [mpn_ne I D P (by decide)]), kTxt_h hx (fun a u v => by rw [e7 a (by omega), F1 a (by omega) (by omega) (by omega)]), ⟨?_, ?_, ?_⟩, kIe_cong hie (mpn_ne I D P (by decide)) (mpn_ne I D P (by decide))⟩
      · rw [zu_apply, if_neg (by omega), zu_apply, if_neg (by omega), zu_apply, if_pos ⟨rfl, rfl⟩]
      · rw [zu_apply, if_neg (by omega), zu_apply, if_pos ⟨rfl, rfl⟩]
      · rw [zu_apply, if_pos ⟨rfl, rfl⟩]
    refine z_aload_n (i := 0) dX8_day_56 rfl hl0 ?_
    refine z_gR zf8_36.g dX8_day_57 hn0 hk0 hr6 ?_
    refine z_iconst (v := 0) dX8_day_60 (by decide) ?_
    refine z_iload_n (i := 2) dX8_day_61 rfl hl2 ?_
    refine z_iast dX8_day_62 hn7 hk7 (zvin (n := 0) (by decide) (by decide)) ?_
    rw [show (0 : Int32).toNatClampNeg = 0 from rfl]
    refine z_aload_n (i := 0) dX8_day_63 rfl hl0 ?_
    refine z_gR zf8_36.g dX8_day_64 hn0 hk0 hr6 ?_
    refine z_iconst (v := 1) dX8_day_67 (by decide) ?_
    refine z_iload_n (i := 1) dX8_day_68 rfl hl1 ?_
    refine z_iast dX8_day_69 hn7 hk7 (zvin (n := 1) (by decide) (by decide)) ?_
    rw [show (1 : Int32).toNatClampNeg = 1 from rfl]
    refine z_aload_n (i := 0) dX8_day_70 rfl hl0 ?_
    refine z_gR zf8_36.g dX8_day_71 hn0 hk0 hr6 ?_
    refine z_iconst (v := 5) dX8_day_74 (by decide) ?_
    refine z_iload_n (i := 3) dX8_day_75 rfl hl3 ?_
    refine z_bipush (v := 7) dX8_day_76 (by decide) ?_
    refine z_irem dX8_day_78 (by decide) ?_
    refine z_top (y := .int (nI (D % 7))) (by rw [zl7, zrem (by omega) (by omega) (by omega)]) ?_
    refine z_iast dX8_day_79 hn7 hk7 (zvin (n := 5) (by decide) (by decide)) ?_
    rw [show (5 : Int32).toNatClampNeg = 5 from rfl]
    refine z_iconst (v := 0) dX8_day_80 (by decide) ?_
    refine z_istore (i := 4) dX8_day_81 (by decide) rfl ?_
    rw [← mdh_0 (mpn I D P) P G D ts (nI wm) (nI wt)] at S2
    refine l8_dayH (J := J) (I1 := mpn I D P) hG hD rfl hwm hwt (fun M2 ls2 hs2 hF2 q0 q1 q2 q3 => ?_) 5 0 _ _ (by omega) (by omega) S2 ⟨by rw [e7 11 (by decide), F1 11 (by decide) (by decide) (by decide)], by rw [e7 12 (by decide), F1 12 (by decide) (by decide) (by decide)]⟩ hl0 hl1 hl2 hl3 rfl
    refine z_iconst (v := 0) dX8_day_122 (by decide) ?_
    refine z_istore (i := 4) dX8_day_123 (by decide) rfl ?_
    refine l8_dayG (J := M2) (Id := mdh (mpn I D P) P G D ts (nI wm) (nI wt) 4) hG hD (W := D / 7) (ts := ts) rfl hwm hwt hs2.2.2.2.2.2 (fun M3 ls3 hs3 hF3 u0 u1 u2 u3 => ?_) (P + 1) 0 M2 _ (by omega) (by omega) (by
      have e0 : mg2 (mdh (mpn I D P) P G D ts (nI wm) (nI wt) 4) (nI wm) (nI wt) (24 * 0) = mdh (mpn I D P) P G D ts (nI wm) (nI wt) 4 := by
        funext a k
        unfold mg2
        rw [if_neg (by omega)]
      rw [e0]
      exact hs2.1) (fun _ _ => rfl) q0 q1 q2 q3 rfl
    refine z_aload_n (i := 0) dX8_day_170 rfl u0 ?_
    refine z_dup dX8_day_171 rfl ?_
    refine z_gI zf8_84.g dX8_day_172 hn0 hk0 ?_
    rw [hs3.1.2.2]
    refine z_iconst (v := 1) dX8_day_175 (by decide) ?_
    refine z_iadd dX8_day_176 ?_
    refine z_top (y := .int (nI (D + 1))) (by rw [zl1, nI_add]) ?_
    refine z_putI zf8_84 dX8_day_177 (fun h => by cases h) hn0 hk0 ?_
    refine z_iload_n (i := 3) dX8_day_180 rfl u3 ?_
    refine z_iret dX8_day_181 rfl ?_
    subst hQ0
    have z : ∀ a, a ≠ 0 → zu M3 0 15 (nI (D + 1)) a = M3 a := fun a ha => zu_ne _ _ _ ha
    exact ⟨rfl, _, rfl, kD_day hG hs3, kOk_I (kOk_le (kOk_I hs2.2.1 (fun a u v => by funext k; unfold mg2; rw [if_neg (by omega)])) (by omega)) (fun a u v => zu_ne _ _ _ (by omega)), kTxt_h hs2.2.2.2.1 (fun a u v => by rw [z a (by omega), hF3 a (by omega)]), kIe_thr (kIe_grow hwm hwt hs2.2.2.2.2.2) 34 _, by rw [z 11 (by decide), hF3 11 (by decide)]; exact hF2.1, by rw [z 12 (by decide), hF3 12 (by decide)]; exact hF2.2⟩
  refine z_iload_n (i := 1) dX8_day_0 rfl rfl ?_
  refine z_if_lt 30 dX8_day_1 (by decide) (fun c_1 => absurd c_1 (nIneg (by omega))) (fun _ => ?_)
  refine z_iload_n (i := 1) dX8_day_4 rfl rfl ?_
  refine z_bipush (v := 10) dX8_day_5 (by decide) ?_
  refine z_icmp_gt 30 dX8_day_7 (by decide) (fun c_2 => absurd c_2 (fun q => by have := (zlt (a := 10) (b := wm) (by omega) (by omega)).mp q; omega)) (fun _ => ?_)
  refine z_iload_n (i := 2) dX8_day_10 rfl rfl ?_
  refine z_if_lt 30 dX8_day_11 (by decide) (fun c_3 => absurd c_3 (nIneg (by omega))) (fun _ => ?_)
  refine z_iload_n (i := 2) dX8_day_14 rfl rfl ?_
  refine z_bipush (v := 10) dX8_day_15 (by decide) ?_
  refine z_icmp_gt 30 dX8_day_17 (by decide) (fun c_4 => absurd c_4 (fun q => by have := (zlt (a := 10) (b := wt) (by omega) (by omega)).mp q; omega)) (fun _ => ?_)
  refine z_aload_n (i := 0) dX8_day_20 rfl rfl ?_
  refine z_gI zf8_84.g dX8_day_21 hn0 hk0 ?_
  refine z_sipush (v := 357) dX8_day_24 (by decide) ?_
  rw [h15]
  refine z_icmp_lt 32 dX8_day_27 (by decide) (fun _ => ?_) (fun c_5 => absurd ((zlt (a := D) (b := 357) (by omega) (by omega)).mpr (by omega)) c_5)
  refine z_aload_n (i := 0) dX8_day_32 rfl rfl ?_
  refine z_gI zf8_84.g dX8_day_33 hn0 hk0 ?_
  rw [h15]
  refine z_istore_n (i := 3) dX8_day_36 rfl (by decide) rfl ?_
  refine z_aload_n (i := 0) dX8_day_37 rfl rfl ?_
  refine z_iload_n (i := 3) dX8_day_38 rfl rfl ?_
  refine z_bipush (v := 7) dX8_day_39 (by decide) ?_
  refine z_idiv dX8_day_41 (by decide) ?_
  refine z_top (y := .int (nI (D / 7))) (by rw [zl7, zdiv (by omega) (by omega) (by omega)]) ?_
  refine z_callV (st := []) (mc2 := 0) (ms2 := 0) zi8_101 zv_yX8_showWeek (c8_showWeek n K J L R P G pa ga ru sp hG I (D / 7) (by omega) h14 hdg hok.1.1) dX8_day_42 hn0 (congrArg Prod.fst hk0) rfl rfl rfl (by decide) (by decide) (Nat.le_of_ble_eq_true rfl) (by decide) (by decide) (fun r h2 hq => ?_)
  obtain ⟨rfl, M1, rfl, hF9, hB9⟩ := hq
  try simp only [Option.toList, List.nil_append]
  refine z_iload_n (i := 3) dX8_day_45 rfl rfl ?_
  refine z_bipush (v := 7) dX8_day_46 (by decide) ?_
  refine z_irem dX8_day_48 (by decide) ?_
  refine z_top (y := .int (nI (D % 7))) (by rw [zl7, zrem (by omega) (by omega) (by omega)]) ?_
  refine z_if_ne 56 dX8_day_49 (by decide) (fun c_6 => ?_) (fun c_6 => ?_)
  · skip
    have hD7 : ¬ D % 7 = 0 := fun q => c_6 (by rw [q]; rfl)
    exact h56 M1 _ (by rw [mpn_id hD7]; exact kD_9 hG hKD hF9) hB9 (fun a _ y z => hF9 a y z) rfl rfl rfl rfl
  · skip
    have hD7 : D % 7 = 0 := (zeq (a := D % 7) (b := 0) (by omega) (by omega)).mp c_6
    refine z_aload_n (i := 0) dX8_day_52 rfl rfl ?_
    refine z_callV (st := []) (mc2 := 0) (ms2 := 0) zi8_136 zv_yX8_beginWeek (c8_beginWeek n K M1 L R P G pa ga ru sp hG I D D hD7 (kD_9 hG hKD hF9)) dX8_day_53 hn0 (congrArg Prod.fst hk0) rfl rfl rfl (by decide) (by decide) (Nat.le_of_ble_eq_true rfl) (by decide) (by decide) (fun r h2 hq => ?_)
    obtain ⟨rfl, M2, rfl, hF2, KD2⟩ := hq
    try simp only [Option.toList, List.nil_append]
    exact h56 M2 _ KD2 (kBw_cong hB9 (hF2 9 (by decide)) (hF2 10 (by decide))) (fun a x y z => by rw [hF2 a x]; exact hF9 a y z) rfl rfl rfl rfl
set_option maxHeartbeats 4000000 in
theorem c8_day0 (n : Nat) (K : Nat → Nat × Nat) (J : Nat → Nat → Int32) (L : Nat → Nat → Int64) (R : Nat → Nat → Option Nat) (P G : Nat) (pa ga : Nat → Nat) (ru sp : Nat) (hG : kG n K R P G pa ga ru sp) (D : Nat) (warm wet : Int32) (hD : D ≤ 357) (h15 : J 0 15 = nI D) (hb : warm < 0 ∨ 10 < warm ∨ wet < 0 ∨ 10 < wet ∨ D = 357) : Zm yX8_day cX8_day 6 (some .int) 6 240 0 0 [.ref 0, .int warm, .int wet] ((n, K, J, L, R)) (kQ (some (.int (-1))) n K J L R) := by
  refine Zm_of (lg := false) (by decide) (fun _ => by simp [Value.category]) (fun _ => Nat.le_of_ble_eq_true rfl) ?_
  show Zf x8_day 0 0 0 (zargs [.ref 0, .int warm, .int wet]) [] ((n, K, J, L, R)) _
  generalize hQ0 : (kQ (some (.int (-1))) n K J L R : Option Value → ZH → Prop) = Q0
  obtain ⟨⟨hn28, hP6, hG60⟩, ⟨hk0, hk1, hk2, hk3, hk4, hk5, hk6, hk7⟩, ⟨hr0, hr1, hr2, hr3, hr4, hr5, hr6⟩, ⟨hr7, hr8, hr9, hr10, hr11, hr12⟩, hB8, ⟨hT11, hR17, hT13⟩, ⟨hU18, hU23, hrs⟩, ⟨hgm, hgi⟩, ⟨hpm, hpi⟩⟩ := id hG
  have hn0 : 0 < n := by omega
  have hn1 : 1 < n := by omega
  have hn2 : 2 < n := by omega
  have hn3 : 3 < n := by omega
  have hn4 : 4 < n := by omega
  have hn5 : 5 < n := by omega
  have hn6 : 6 < n := by omega
  have hn7 : 7 < n := by omega
  have hn8 : 8 < n := by omega
  have hk8 : K 8 = (5, 0) := hB8.2.2.2.1
  have hn11 : 11 < n := by omega
  have hk11 : K 11 = (10, 0) := hT11.2.2.1
  refine z_iload_n (i := 1) dX8_day_0 rfl rfl ?_
  refine z_if_lt 30 dX8_day_1 (by decide) (fun c_1 => ?_) (fun c_1 => ?_)
  · skip
    refine z_iconst (v := (-1)) dX8_day_30 (by decide) ?_
    refine z_iret dX8_day_31 rfl ?_
    subst hQ0
    exact ⟨rfl, rfl⟩
  · skip
    refine z_iload_n (i := 1) dX8_day_4 rfl rfl ?_
    refine z_bipush (v := 10) dX8_day_5 (by decide) ?_
    refine z_icmp_gt 30 dX8_day_7 (by decide) (fun c_2 => ?_) (fun c_2 => ?_)
    · skip
      refine z_iconst (v := (-1)) dX8_day_30 (by decide) ?_
      refine z_iret dX8_day_31 rfl ?_
      subst hQ0
      exact ⟨rfl, rfl⟩
    · skip
      refine z_iload_n (i := 2) dX8_day_10 rfl rfl ?_
      refine z_if_lt 30 dX8_day_11 (by decide) (fun c_3 => ?_) (fun c_3 => ?_)
      · skip
        refine z_iconst (v := (-1)) dX8_day_30 (by decide) ?_
        refine z_iret dX8_day_31 rfl ?_
        subst hQ0
        exact ⟨rfl, rfl⟩
      · skip
        refine z_iload_n (i := 2) dX8_day_14 rfl rfl ?_
        refine z_bipush (v := 10) dX8_day_15 (by decide) ?_
        refine z_icmp_gt 30 dX8_day_17 (by decide) (fun c_4 => ?_) (fun c_4 => ?_)
        · skip
          refine z_iconst (v := (-1)) dX8_day_30 (by decide) ?_
          refine z_iret dX8_day_31 rfl ?_
          subst hQ0
          exact ⟨rfl, rfl⟩
        · skip
          refine z_aload_n (i := 0) dX8_day_20 rfl rfl ?_
          refine z_gI zf8_84.g dX8_day_21 hn0 hk0 ?_
          refine z_sipush (v := 357) dX8_day_24 (by decide) ?_
          rw [h15]
          refine z_icmp_lt 32 dX8_day_27 (by decide) (fun c_5 => ?_) (fun c_5 => ?_)
          · skip
            subst hQ0
            exfalso
            rcases hb with h | h | h | h | h
            · exact c_1 h
            · exact c_2 h
            · exact c_3 h
            · exact c_4 h
            · have := (zlt (a := D) (b := 357) (by omega) (by omega)).mp c_5
              omega
          · skip
            refine z_iconst (v := (-1)) dX8_day_30 (by decide) ?_
            refine z_iret dX8_day_31 rfl ?_
            subst hQ0
            exact ⟨rfl, rfl⟩
