/-! the grass stays within 0 and 1000 -/
def kIe (I : Nat → Nat → Int32) (P : Nat) : Prop := ∀ k, k < 24 * P → (∃ x, x ≤ 1000 ∧ I 18 k = nI x) ∧ ∃ x, x ≤ 1000 ∧ I 19 k = nI x
theorem kIe_cong {I I' : Nat → Nat → Int32} {P : Nat} (h : kIe I P) (h18 : I' 18 = I 18) (h19 : I' 19 = I 19) : kIe I' P := by
  unfold kIe
  rw [h18, h19]
  exact h
theorem mshare_3 (how r c : Int32) : ∃ s, s ≤ 3 ∧ mshare how r c = nI s := by
  unfold mshare
  by_cases h1 : how = 0
  · rw [if_pos h1]
    by_cases h2 : r = 1 ∨ r = 2
    · rw [if_pos h2]
      by_cases h3 : c = 0 ∨ c = 5
      · rw [if_pos h3]; exact ⟨3, by omega, rfl⟩
      · rw [if_neg h3]
        by_cases h4 : c = 2 ∨ c = 3
        · rw [if_pos h4]; exact ⟨2, by omega, rfl⟩
        · rw [if_neg h4]; exact ⟨1, by omega, rfl⟩
    · rw [if_neg h2]; exact ⟨1, by omega, rfl⟩
  · rw [if_neg h1]
    by_cases h2 : c = 2 ∨ c = 3
    · rw [if_pos h2]
      by_cases h3 : r = 1 ∨ r = 2
      · rw [if_pos h3]; exact ⟨2, by omega, rfl⟩
      · rw [if_neg h3]; exact ⟨3, by omega, rfl⟩
    · rw [if_neg h2]; exact ⟨1, by omega, rfl⟩
theorem mwf_n {ag wt s : Nat} (h1 : ag ≤ 2) (h2 : wt ≤ 10) (h3 : s ≤ 3) : ∃ f, f ≤ 1000 ∧ mwf (nI ag) (nI wt) (nI s) = nI f := by
  have e : (4 + 2 * ag) * s * (10 + wt) ≤ 8 * 3 * 20 := Nat.mul_le_mul (Nat.mul_le_mul (by omega) h3) (by omega)
  refine ⟨(4 + 2 * ag) * s * (10 + wt) / 10, by omega, ?_⟩
  unfold mwf
  rw [zl4, zl2, zl10, pk_mul, nI_add, nI_add, pk_mul, pk_mul, zdiv (by omega) (by omega) (by omega)]
theorem mww_b {I : Nat → Nat → Int32} {A p k ag wt v : Nat} {how : Int32} (h1 : ag ≤ 2) (h2 : wt ≤ 10) (hv : v ≤ 1000) (hI : I A (24 * p + k) = nI v) : ∃ y, y ≤ 1000 ∧ I A (24 * p + k) - mww I A p how (nI ag) (nI wt) k = nI y := by
  unfold mww
  obtain ⟨s, hs, es⟩ := mshare_3 how (nI (k / 6)) (nI (k % 6))
  obtain ⟨f, hf, ef⟩ := mwf_n h1 h2 hs
  rw [es, ef, hI]
  by_cases h : f ≤ v
  · rw [if_pos ((zle (by omega) (by omega)).mpr h)]
    obtain ⟨d, rfl⟩ : ∃ d, v = f + d := ⟨v - f, by omega⟩
    exact ⟨d, by omega, zsub⟩
  · rw [if_neg (fun q => h ((zle (by omega) (by omega)).mp q))]
    refine ⟨0, by omega, ?_⟩
    rw [Int32.sub_self]
    rfl
theorem mwI_b {I : Nat → Nat → Int32} {A p ag wt k P : Nat} {how : Int32} (h1 : ag ≤ 2) (h2 : wt ≤ 10) (hI : ∀ k, k < 24 * P → ∃ x, x ≤ 1000 ∧ I A k = nI x) (hk : k < 24 * P) : ∃ x, x ≤ 1000 ∧ mwI I A p how (nI ag) (nI wt) 24 A k = nI x := by
  unfold mwI
  by_cases h : A = A ∧ 24 * p ≤ k ∧ k < 24 * p + 24
  · rw [if_pos h]
    obtain ⟨v, hv, e⟩ := hI k hk
    have := mww_b (how := how) (p := p) (k := k - 24 * p) h1 h2 hv (by rw [show 24 * p + (k - 24 * p) = k by omega]; exact e)
    rw [show 24 * p + (k - 24 * p) = k by omega] at this
    exact this
  · rw [if_neg h]
    exact hI k hk
theorem mplay_ne (I : Nat → Nat → Int32) (p g : Nat) (wet : Int32) {a : Nat} (h : a ≠ 18 ∧ a ≠ 20 ∧ a ≠ 22 ∧ a ≠ 23 ∧ a ≠ 31) : mplay I p g wet a = I a := by
  unfold mplay
  rw [zu_ne _ _ _ h.2.1]
  have : mwI (zu (zu (zu I 31 g 2) 22 p (I 22 p + 1)) 23 p (I 23 p + 1)) 18 p (I 17 p) (I 27 g) wet 24 a = zu (zu (zu I 31 g 2) 22 p (I 22 p + 1)) 23 p (I 23 p + 1) a := by
    funext j
    unfold mwI
    rw [if_neg (fun q => h.1 q.1)]
  rw [this, zu_ne _ _ _ h.2.2.2.1, zu_ne _ _ _ h.2.2.1, zu_ne _ _ _ h.2.2.2.2]
theorem mplay2_ne (I : Nat → Nat → Int32) (p g : Nat) (wet : Int32) {a : Nat} (h : a ≠ 19 ∧ a ≠ 21) : mplay2 I p g wet a = I a := by
  unfold mplay2
  rw [zu_ne _ _ _ h.2]
  funext j
  unfold mwI
  rw [if_neg (fun q => h.1 q.1)]
theorem mplay_31 (I : Nat → Nat → Int32) (p g : Nat) (wet : Int32) : mplay2 (mplay I p g wet) p g wet 31 = zu I 31 g 2 31 := by
  rw [mplay2_ne _ _ _ _ (by decide)]
  unfold mplay
  rw [zu_ne _ _ _ (by decide)]
  have : mwI (zu (zu (zu I 31 g 2) 22 p (I 22 p + 1)) 23 p (I 23 p + 1)) 18 p (I 17 p) (I 27 g) wet 24 31 = zu (zu (zu I 31 g 2) 22 p (I 22 p + 1)) 23 p (I 23 p + 1) 31 := by
    funext j
    unfold mwI
    rw [if_neg (fun q => absurd q.1 (by decide))]
  rw [this, zu_ne _ _ _ (by decide), zu_ne _ _ _ (by decide)]
theorem kIe_play {I : Nat → Nat → Int32} {P p g ag wt : Nat} {wet : Int32} (h : kIe I P) (hag : ag ≤ 2) (h27 : I 27 g = nI ag) (hwt : wt ≤ 10) (hwet : wet = nI wt) : kIe (mplay2 (mplay I p g wet) p g wet) P := by
  subst hwet
  intro k hk
  constructor
  · rw [mplay2_ne _ _ _ _ (by decide)]
    unfold mplay
    rw [zu_ne _ _ _ (by decide), h27]
    exact mwI_b hag hwt (fun k hk => by rw [zu_ne _ _ _ (by decide), zu_ne _ _ _ (by decide), zu_ne _ _ _ (by decide)]; exact (h k hk).1) hk
  · unfold mplay2
    rw [zu_ne _ _ _ (by decide), mplay_ne I p g _ (a := 27) (by decide), h27]
    exact mwI_b hag hwt (fun k hk => by rw [mplay_ne I p g _ (a := 19) (by decide)]; exact (h k hk).2) hk
def kFp (J M : Nat → Nat → Int32) : Prop := ∀ a, a < 28 → a ≠ 4 → M a = J a
abbrev x8_playGame : ZX := (RX8, cX8_playGame, 4, none, "playGame", 2, 80, false)
set_option maxHeartbeats 4000000 in
theorem c8_playGame (n : Nat) (K : Nat → Nat × Nat) (J : Nat → Nat → Int32) (L : Nat → Nat → Int64) (R : Nat → Nat → Option Nat) (P G : Nat) (pa ga : Nat → Nat) (ru sp : Nat) (hG : kG n K R P G pa ga ru sp) (I : Nat → Nat → Int32) (D g j a b : Nat) (wet : Int32) (hKD : kD J I P G D pa ga) (hg : g < G) (hj : j < P) (hst1 : I 31 g = 1) (ha : a < 16) (hb : b < 16) (hab : a ≠ b) (h25 : I 25 g = nI a) (h26 : I 26 g = nI b) (t0 : J 7 0 = wet) : Zm yX8_playGame cX8_playGame 4 none 2 80 0 0 [.ref 0, .ref (ga g), .ref (pa j)] (n, K, J, L, R) (fun r h => r = none ∧ ∃ M, h = (n, K, M, L, R) ∧ kFp J M ∧ kD M (mplay2 (mplay I j g wet) j g wet) P G D pa ga) := by
  refine Zm_of (lg := false) (by decide) (fun _ => by simp [Value.category]) (fun _ => Nat.le_of_ble_eq_true rfl) ?_
  show Zf x8_playGame 0 0 0 (zargs [.ref 0, .ref (ga g), .ref (pa j)]) [] (n, K, J, L, R) _
  generalize hQ0 : ((fun r h => r = none ∧ ∃ M, h = (n, K, M, L, R) ∧ kFp J M ∧ kD M (mplay2 (mplay I j g wet) j g wet) P G D pa ga) : Option Value → ZH → Prop) = Q0
  obtain ⟨⟨hn28, hP6, hG60⟩, ⟨hk0, hk1, hk2, hk3, hk4, hk5, hk6, hk7⟩, ⟨hr0, hr1, hr2, hr3, hr4, hr5, hr6⟩, ⟨hr7, hr8, hr9, hr10, hr11, hr12⟩, hB8, ⟨hT11, hR17, hT13⟩, ⟨hU18, hU23, hrs⟩, ⟨hgm, hgi⟩, ⟨hpm, hpi⟩⟩ := id hG
  have hn0 : 0 < n := by omega
  have hn1 : 1 < n := by omega
  have hn2 : 2 < n := by omega
  have hn3 : 3 < n := by omega
  have hn4 : 4 < n := by omega
  have hn5 : 5 < n := by omega
  have hn6 : 6 < n := by omega
  have hn7 : 7 < n := by omega
  have hn8 : 8 < n := by omega
  have hk8 : K 8 = (5, 0) := hB8.2.2.2.1
  have hn11 : 11 < n := by omega
  have hk11 : K 11 = (10, 0) := hT11.2.2.1
  obtain ⟨-, hg28, hga, hgk⟩ := hgm g hg
  obtain ⟨hpr, hpb⟩ := hpm j hj
  obtain ⟨hp28, hp5, hpk, htn0, htr0, hpn, hpo⟩ := id hpb
  obtain ⟨htna, hcna, htnk, hcnk, htn⟩ := id htn0
  obtain ⟨htra, hcoa, htrk, hcok, htr⟩ := id htr0
  have hpa : pa j < n := by omega
  obtain ⟨⟨h13, h14, h15⟩, hdg, hdp, hdt, hdc⟩ := id hKD
  obtain ⟨⟨a1, a2, a3, a4, a5⟩, ⟨b1, b2, b3, b4, b5⟩⟩ := hdg g hg
  have ng0 := kne hgk hpk (by decide)
  have ng1 := kne hgk htnk (by decide)
  have ng2 := kne hgk hcnk (by decide)
  have ng3 := kne hgk htrk (by decide)
  have ng4 := kne hgk hcok (by decide)
  have D1 := kD_st (x := zu (zu J (ga g) 7 2) 4 a (J 4 a + 1) 4 b) hG hKD hg ha hb hab h25 h26 hst1 (by rw [zu_apply, if_neg (fun q => hab q.2.symm), zu_ne _ _ _ (by omega)])
  have E1 : ∀ q, q ≠ 4 → q ≠ ga g → zu (zu (zu J (ga g) 7 2) 4 a (J 4 a + 1)) 4 b (zu (zu J (ga g) 7 2) 4 a (J 4 a + 1) 4 b + 1) q = J q := fun q x y => by rw [zu_ne _ _ _ x, zu_ne _ _ _ x, zu_ne _ _ _ y]
  have G1 : zu (zu (zu J (ga g) 7 2) 4 a (J 4 a + 1)) 4 b (zu (zu J (ga g) 7 2) 4 a (J 4 a + 1) 4 b + 1) (ga g) 3 = I 27 g := by rw [zu_ne _ _ _ (by omega), zu_ne _ _ _ (by omega), zu_apply, if_neg (by omega)]; exact a4
  refine z_aload_n (i := 0) dX8_playGame_0 rfl rfl ?_
  refine z_gR zf8_36.g dX8_playGame_1 hn0 hk0 hr6 ?_
  refine z_iconst (v := 0) dX8_playGame_4 (by decide) ?_
  refine z_iald dX8_playGame_5 hn7 hk7 (zvin (n := 0) (by decide) (by decide)) ?_
  rw [show (0 : Int32).toNatClampNeg = 0 from rfl, t0]
  refine z_istore_n (i := 3) dX8_playGame_6 rfl (by decide) rfl ?_
  refine z_aload_n (i := 1) dX8_playGame_7 rfl rfl ?_
  refine z_iconst (v := 2) dX8_playGame_8 (by decide) ?_
  refine z_putI zf8_107 dX8_playGame_9 (fun h => by cases h) hga hgk ?_
  refine z_aload_n (i := 0) dX8_playGame_12 rfl rfl ?_
  refine z_gR zf8_25.g dX8_playGame_13 hn0 hk0 hr3 ?_
  refine z_aload_n (i := 1) dX8_playGame_16 rfl rfl ?_
  refine z_gI zf8_266 dX8_playGame_17 hga hgk ?_
  rw [zu_apply, if_neg (by omega), a1, h25]
  refine z_dup2 dX8_playGame_20 rfl rfl ?_
  refine z_iald dX8_playGame_21 hn4 hk4 (zvin (by omega) (by omega)) ?_
  rw [zcl (by omega), zu_ne _ _ _ (show (4 : Nat) ≠ ga g by omega)]
  refine z_iconst (v := 1) dX8_playGame_22 (by decide) ?_
  refine z_iadd dX8_playGame_23 ?_
  refine z_iast dX8_playGame_24 hn4 hk4 (zvin (by omega) (by omega)) ?_
  rw [zcl (by omega)]
  refine z_aload_n (i := 0) dX8_playGame_25 rfl rfl ?_
  refine z_gR zf8_25.g dX8_playGame_26 hn0 hk0 hr3 ?_
  refine z_aload_n (i := 1) dX8_playGame_29 rfl rfl ?_
  refine z_gI zf8_269 dX8_playGame_30 hga hgk ?_
  rw [zu_ne _ _ _ (show ga g ≠ 4 by omega), zu_apply, if_neg (by omega), a2, h26]
  refine z_dup2 dX8_playGame_33 rfl rfl ?_
  refine z_iald dX8_playGame_34 hn4 hk4 (zvin (by omega) (by omega)) ?_
  rw [zcl (by omega)]
  refine z_iconst (v := 1) dX8_playGame_35 (by decide) ?_
  refine z_iadd dX8_playGame_36 ?_
  refine z_iast dX8_playGame_37 hn4 hk4 (zvin (by omega) (by omega)) ?_
  rw [zcl (by omega)]
  generalize zu (zu (zu J (ga g) 7 2) 4 a (J 4 a + 1)) 4 b (zu (zu J (ga g) 7 2) 4 a (J 4 a + 1) 4 b + 1) = JA at D1 E1 G1 ⊢
  have v2 : JA (pa j) 2 = I 22 j := (D1.2.2.1 j hj).1.1
  have D2 := kD_cnt hG D1 hj (Or.inl ⟨rfl, rfl⟩) (I 22 j + 1)
  have v3 : zu JA (pa j) 2 (I 22 j + 1) (pa j) 3 = I 23 j := by
    have := (D2.2.2.1 j hj).1.2.1
    rw [this, zu_ne _ _ _ (by decide), zu_ne _ _ _ (by decide)]
  have D3 := kD_cnt hG D2 hj (Or.inr (Or.inl ⟨rfl, rfl⟩)) (I 23 j + 1)
  refine z_aload_n (i := 2) dX8_playGame_38 rfl rfl ?_
  refine z_dup dX8_playGame_39 rfl ?_
  refine z_gI zf8_193.g dX8_playGame_40 hpa hpk ?_
  rw [v2]
  refine z_iconst (v := 1) dX8_playGame_43 (by decide) ?_
  refine z_iadd dX8_playGame_44 ?_
  refine z_putI zf8_193 dX8_playGame_45 (fun h => by cases h) hpa hpk ?_
  refine z_aload_n (i := 2) dX8_playGame_48 rfl rfl ?_
  refine z_dup dX8_playGame_49 rfl ?_
  refine z_gI zf8_244.g dX8_playGame_50 hpa hpk ?_
  rw [v3]
  refine z_iconst (v := 1) dX8_playGame_53 (by decide) ?_
  refine z_iadd dX8_playGame_54 ?_
  refine z_putI zf8_244 dX8_playGame_55 (fun h => by cases h) hpa hpk ?_
  have E3 : ∀ q, q ≠ pa j → zu (zu JA (pa j) 2 (I 22 j + 1)) (pa j) 3 (I 23 j + 1) q = JA q := fun q x => by rw [zu_ne _ _ _ x, zu_ne _ _ _ x]
  generalize zu (zu JA (pa j) 2 (I 22 j + 1)) (pa j) 3 (I 23 j + 1) = JC at D3 E3 ⊢
  have G3 : JC (ga g) 3 = I 27 g := by rw [E3 _ ng0]; exact G1
  have D4 := kD_wear1 hG D3 hj (I 27 g) wet
  have E4 : ∀ q, q ≠ pa j + 1 → q ≠ pa j + 2 → twI JC (pa j + 1) (pa j + 2) (I 27 g) wet 24 q = JC q := fun q x y => by
    funext k
    unfold twI
    rw [if_neg (fun w => y w.1), if_neg (fun w => x w.1)]
  refine z_aload_n (i := 2) dX8_playGame_58 rfl rfl ?_
  refine z_gR zf8_143 dX8_playGame_59 hpa hpk hpn ?_
  refine z_aload_n (i := 1) dX8_playGame_62 rfl rfl ?_
  refine z_gI zf8_227 dX8_playGame_63 hga hgk ?_
  rw [G3]
  refine z_iload_n (i := 3) dX8_playGame_66 rfl rfl ?_
  refine z_callV (st := []) (mc2 := 0) (ms2 := 0) zi8_272 zv_yX7_wear (c7_wear n K JC L R (pa j + 1) (pa j + 2) (I 27 g) wet htn0) dX8_playGame_67 htna (congrArg Prod.fst htnk) rfl rfl rfl (by decide) (by decide) (Nat.le_of_ble_eq_true rfl) (by decide) (by decide) (fun r h2 hq => ?_)
  obtain ⟨rfl, rfl⟩ := hq
  try simp only [Option.toList, List.nil_append]
  generalize twI JC (pa j + 1) (pa j + 2) (I 27 g) wet 24 = JD at D4 E4 ⊢
  have G4 : JD (ga g) 3 = I 27 g := by rw [E4 _ ng1 ng2]; exact G3
  have D5 := kD_wear2 hG D4 hj (I 27 g) wet
  have E5 : ∀ q, q ≠ pa j + 3 → q ≠ pa j + 4 → twI JD (pa j + 3) (pa j + 4) (I 27 g) wet 24 q = JD q := fun q x y => by
    funext k
    unfold twI
    rw [if_neg (fun w => y w.1), if_neg (fun w => x w.1)]
  refine z_aload_n (i := 2) dX8_playGame_70 rfl rfl ?_
  refine z_gR zf8_153 dX8_playGame_71 hpa hpk hpo ?_
  refine z_aload_n (i := 1) dX8_playGame_74 rfl rfl ?_
  refine z_gI zf8_227 dX8_playGame_75 hga hgk ?_
  rw [G4]
  refine z_iload_n (i := 3) dX8_playGame_78 rfl rfl ?_
  refine z_callV (st := []) (mc2 := 0) (ms2 := 0) zi8_272 zv_yX7_wear (c7_wear n K JD L R (pa j + 3) (pa j + 4) (I 27 g) wet htr0) dX8_playGame_79 htra (congrArg Prod.fst htrk) rfl rfl rfl (by decide) (by decide) (Nat.le_of_ble_eq_true rfl) (by decide) (by decide) (fun r h2 hq => ?_)
  obtain ⟨rfl, rfl⟩ := hq
  try simp only [Option.toList, List.nil_append]
  refine z_vret dX8_playGame_82 rfl ?_
  subst hQ0
  refine ⟨rfl, _, rfl, fun q x y => ?_, ?_⟩
  · rw [E5 q (by omega) (by omega), E4 q (by omega) (by omega), E3 q (by omega), E1 q y (by omega)]
  · have hI : mplay I j g wet = zu (mwI (zu (zu (zu I 31 g 2) 22 j (I 22 j + 1)) 23 j (I 23 j + 1)) 18 j (zu (zu (zu I 31 g 2) 22 j (I 22 j + 1)) 23 j (I 23 j + 1) 17 j) (I 27 g) wet 24) 20 j (zu (zu (zu I 31 g 2) 22 j (I 22 j + 1)) 23 j (I 23 j + 1) 20 j + msum (mww (zu (zu (zu I 31 g 2) 22 j (I 22 j + 1)) 23 j (I 23 j + 1)) 18 j (zu (zu (zu I 31 g 2) 22 j (I 22 j + 1)) 23 j (I 23 j + 1) 17 j) (I 27 g) wet) 24) := by
      have q17 : zu (zu (zu I 31 g 2) 22 j (I 22 j + 1)) 23 j (I 23 j + 1) 17 j = I 17 j := by rw [zu_ne _ _ _ (by decide), zu_ne _ _ _ (by decide), zu_ne _ _ _ (by decide)]
      have q20 : zu (zu (zu I 31 g 2) 22 j (I 22 j + 1)) 23 j (I 23 j + 1) 20 j = I 20 j := by rw [zu_ne _ _ _ (by decide), zu_ne _ _ _ (by decide), zu_ne _ _ _ (by decide)]
      rw [q17, q20]
      rfl
    rw [← hI] at D5
    have h2 : mplay2 (mplay I j g wet) j g wet = zu (mwI (mplay I j g wet) 19 j (1 - mplay I j g wet 17 j) (I 27 g) wet 24) 21 j (mplay I j g wet 21 j + msum (mww (mplay I j g wet) 19 j (1 - mplay I j g wet 17 j) (I 27 g) wet) 24) := by
      unfold mplay2
      rw [mplay_ne I j g wet (a := 27) (by decide)]
    rw [h2]
    exact D5
