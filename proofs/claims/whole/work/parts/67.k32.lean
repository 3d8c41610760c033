/-! the keeper beside the reference: what its cells hold -/
def kGm (J I : Nat → Nat → Int32) (b g : Nat) : Prop := (J b 0 = I 25 g ∧ J b 1 = I 26 g ∧ J b 2 = (1 <<< (I 25 g &&& 31)) ||| (1 <<< (I 26 g &&& 31)) ∧ J b 3 = I 27 g ∧ J b 4 = I 28 g) ∧ (J b 5 = I 29 g ∧ J b 6 = I 30 g ∧ J b 7 = I 31 g ∧ J b 8 = (if I 32 g < 0 then -1 else I 32 g - 168 * I 29 g) ∧ J b 9 = I 33 g)
def kPm (J I : Nat → Nat → Int32) (b p : Nat) : Prop := (J b 2 = I 22 p ∧ J b 3 = I 23 p ∧ J b 4 = I 24 p) ∧ (J (b + 1) 1 = I 17 p ∧ J (b + 1) 2 = I 20 p ∧ ∀ k, k < 24 → J (b + 2) k = I 18 (24 * p + k)) ∧ (J (b + 3) 1 = 1 - I 17 p ∧ J (b + 3) 2 = I 21 p ∧ ∀ k, k < 24 → J (b + 4) k = I 19 (24 * p + k))
def kSc (J : Nat → Nat → Int32) (P G D : Nat) : Prop := J 0 13 = nI P ∧ J 0 14 = nI G ∧ J 0 15 = nI D
def kTr (J I : Nat → Nat → Int32) (P : Nat) : Prop := ∀ a p, a < 3 → p < 32 → zbt (J 3 a) p = (decide (p < P) && decide (¬ I 16 p < nI a))
def kCl (J I : Nat → Nat → Int32) (G : Nat) : Prop := ∀ c, c < 16 → J 4 c = mnof I (nI c) 2 G ∧ J 5 c = I 34 c ∧ J 6 c = mnof I (nI c) 3 G
def kTa (J I : Nat → Nat → Int32) (T : Nat) (ch : Nat → Nat) : Prop := T ≤ 600 ∧ J 11 1 = nI T ∧ I 0 2 = nI T ∧ ∀ j, j < T → J 12 j = nI (ch j) ∧ I 1 j = nI (ch j) ∧ ch j ≤ 126
def kD (J I : Nat → Nat → Int32) (P G D : Nat) (pa ga : Nat → Nat) : Prop := kSc J P G D ∧ (∀ g, g < G → kGm J I (ga g) g) ∧ (∀ p, p < P → kPm J I (pa p) p) ∧ kTr J I P ∧ kCl J I G
theorem kGm_cong {J I J' I' : Nat → Nat → Int32} {b g : Nat} (h : kGm J I b g) (hJ : J' b = J b) (hI : ∀ a, 25 ≤ a → a ≤ 33 → I' a g = I a g) : kGm J' I' b g := by
  unfold kGm at h ⊢
  rw [hJ, hI 25 (by decide) (by decide), hI 26 (by decide) (by decide), hI 27 (by decide) (by decide), hI 28 (by decide) (by decide), hI 29 (by decide) (by decide), hI 30 (by decide) (by decide), hI 31 (by decide) (by decide), hI 32 (by decide) (by decide), hI 33 (by decide) (by decide)]
  exact h
theorem kPm_cong {J I J' I' : Nat → Nat → Int32} {b p : Nat} (h : kPm J I b p) (hJ : ∀ a, b ≤ a → a < b + 5 → J' a = J a) (hI : ∀ a, 17 ≤ a → a ≤ 24 → a ≠ 18 → a ≠ 19 → I' a p = I a p) (hC : ∀ k, k < 24 → I' 18 (24 * p + k) = I 18 (24 * p + k) ∧ I' 19 (24 * p + k) = I 19 (24 * p + k)) : kPm J' I' b p := by
  obtain ⟨⟨a1, a2, a3⟩, ⟨b1, b2, b3⟩, ⟨c1, c2, c3⟩⟩ := h
  unfold kPm
  rw [hJ b (by omega) (by omega), hJ (b + 1) (by omega) (by omega), hJ (b + 2) (by omega) (by omega), hJ (b + 3) (by omega) (by omega), hJ (b + 4) (by omega) (by omega), hI 17 (by decide) (by decide) (by decide) (by decide), hI 20 (by decide) (by decide) (by decide) (by decide), hI 21 (by decide) (by decide) (by decide) (by decide), hI 22 (by decide) (by decide) (by decide) (by decide), hI 23 (by decide) (by decide) (by decide) (by decide), hI 24 (by decide) (by decide) (by decide) (by decide)]
  exact ⟨⟨a1, a2, a3⟩, ⟨b1, b2, fun k hk => by rw [(hC k hk).1]; exact b3 k hk⟩, ⟨c1, c2, fun k hk => by rw [(hC k hk).2]; exact c3 k hk⟩⟩
theorem kCl_cong {J I J' I' : Nat → Nat → Int32} {G : Nat} (h : kCl J I G) (h4 : J' 4 = J 4) (h5 : J' 5 = J 5) (h6 : J' 6 = J 6) (hI : ∀ a, a = 25 ∨ a = 26 ∨ a = 31 ∨ a = 34 → I' a = I a) : kCl J' I' G := by
  intro c hc
  rw [h4, h5, h6, hI 34 (by omega), mnof_cong (hI 31 (by omega)) (hI 25 (by omega)) (hI 26 (by omega)), mnof_cong (hI 31 (by omega)) (hI 25 (by omega)) (hI 26 (by omega))]
  exact h c hc
theorem kTr_cong {J I J' I' : Nat → Nat → Int32} {P : Nat} (h : kTr J I P) (h3 : J' 3 = J 3) (hI : I' 16 = I 16) : kTr J' I' P := by
  intro a p ha hp
  rw [h3, hI]
  exact h a p ha hp
/-- the keeper's rows that no word of kD speaks of may change -/
def kOut (a : Nat) : Prop := 7 ≤ a ∧ a < 28
theorem kD_out {n : Nat} {K : Nat → Nat × Nat} {R : Nat → Nat → Option Nat} {P G D : Nat} {pa ga : Nat → Nat} {ru sp : Nat} {J J' I : Nat → Nat → Int32} (hG : kG n K R P G pa ga ru sp) (h : kD J I P G D pa ga) (hJ : ∀ a, ¬ kOut a → J' a = J a) : kD J' I P G D pa ga := by
  obtain ⟨⟨s1, s2, s3⟩, h2, h3, h4, h5⟩ := h
  obtain ⟨-, -, -, -, -, -, -, ⟨hgm, -⟩, ⟨hpm, -⟩⟩ := hG
  have e : ∀ a, a < 7 ∨ 28 ≤ a → J' a = J a := fun a ha => hJ a (fun q => by unfold kOut at q; omega)
  refine ⟨⟨by rw [e 0 (by omega)]; exact s1, by rw [e 0 (by omega)]; exact s2, by rw [e 0 (by omega)]; exact s3⟩, fun g hg => kGm_cong (h2 g hg) (e _ (Or.inr (hgm g hg).2.1)) (fun _ _ _ => rfl), fun p hp => kPm_cong (h3 p hp) (fun a h1 _ => e _ (Or.inr (Nat.le_trans (hpm p hp).2.1 h1))) (fun _ _ _ _ _ => rfl) (fun _ _ => ⟨rfl, rfl⟩), kTr_cong h4 (e 3 (by omega)) rfl, kCl_cong h5 (e 4 (by omega)) (e 5 (by omega)) (e 6 (by omega)) (fun _ _ => rfl)⟩
/-- nor does it matter what was thrown -/
theorem kD_thr {P G D : Nat} {pa ga : Nat → Nat} {J I : Nat → Nat → Int32} (h : kD J I P G D pa ga) (k : Nat) (v : Int32) : kD J (zu I 0 k v) P G D pa ga := by
  obtain ⟨h1, h2, h3, h4, h5⟩ := h
  exact ⟨h1, fun g hg => kGm_cong (h2 g hg) rfl (fun a x y => by rw [zu_ne _ _ _ (by omega)]), fun p hp => kPm_cong (h3 p hp) (fun _ _ _ => rfl) (fun a x y _ _ => by rw [zu_ne _ _ _ (by omega)]) (fun k _ => ⟨by rw [zu_ne _ _ _ (by decide)], by rw [zu_ne _ _ _ (by decide)]⟩), kTr_cong h4 rfl (zu_ne _ _ _ (by decide)), kCl_cong h5 rfl rfl rfl (fun a ha => zu_ne _ _ _ (by omega))⟩
theorem mleast_cong {f g : Nat → Int32} : ∀ m, (∀ k, k < m → f k = g k) → mleast f m = mleast g m
  | 0, _ => rfl
  | m + 1, h => by
    simp only [mleast]
    rw [mleast_cong m (fun k hk => h k (by omega)), h m (by omega)]
theorem msum_cong {f g : Nat → Int32} : ∀ m, (∀ k, k < m → f k = g k) → msum f m = msum g m
  | 0, _ => rfl
  | m + 1, h => by
    simp only [msum]
    rw [msum_cong m (fun k hk => h k (by omega)), h m (by omega)]
theorem kcnt_nth {J I : Nat → Nat → Int32} {ga : Nat → Nat} {how : Int32} : ∀ G, (∀ g, g < G → J (ga g) 7 = I 31 g) → kcnt (fun g => decide (J (ga g) 7 = how)) G = mnth I how G
  | 0, _ => rfl
  | G + 1, h => by
    simp only [kcnt, mnth]
    rw [kcnt_nth G (fun g hg => h g (by omega))]
    have hG := h G (by omega)
    by_cases e : I 31 G = how
    · simp [e, hG]
    · simp [e, hG]
theorem ksm_shs {J I : Nat → Nat → Int32} {pa : Nat → Nat} : ∀ P, (∀ p, p < P → J (pa p) 4 = I 24 p) → ksm (fun p => J (pa p) 4) P = mshs I P
  | 0, _ => rfl
  | P + 1, h => by
    simp only [ksm, mshs]
    rw [ksm_shs P (fun p hp => h p (by omega)), h P (by omega)]
theorem kicl {c : Nat} (hc : c < 16) : (if nI c < 0 then (0 : Int32) else if 16 ≤ nI c then 0 else 1) = 1 := by
  rw [if_neg (nI_pos (by omega)), if_neg (fun h => by have := (zle (a := 16) (b := c) (by omega) (by omega)).mp h; omega)]
theorem k4_3 {r : Int32} : 4 ≤ r ↔ 3 < r := by
  rw [Int32.le_iff_toInt_le, Int32.lt_iff_toInt_lt]
  show (4 : Int) ≤ _ ↔ (3 : Int) < _
  omega
theorem k6_5 {c : Int32} (h : 5 < c) : ¬ c < 6 := by
  rw [Int32.lt_iff_toInt_lt] at h ⊢
  have h : (5 : Int) < c.toInt := h
  show ¬ c.toInt < (6 : Int)
  omega
abbrev x8_field : ZX := (RX8, cX8_field, 4, (some .int), "field", 2, 80, false)
set_option maxHeartbeats 4000000 in
theorem c8_field (n : Nat) (K : Nat → Nat × Nat) (J : Nat → Nat → Int32) (L : Nat → Nat → Int64) (R : Nat → Nat → Option Nat) (P G : Nat) (pa ga : Nat → Nat) (ru sp : Nat) (hG : kG n K R P G pa ga ru sp) (I : Nat → Nat → Int32) (D : Nat) (hD : kD J I P G D pa ga) (j : Nat) (hj : j < P) (what : Int32) : Zm yX8_field cX8_field 4 (some .int) 2 80 0 0 [.ref 0, .int (nI j), .int what] ((n, K, J, L, R)) (kQ (some (.int (if what = 0 then I 17 j else if what = 1 then mleast (fun k => I 18 (24 * j + k)) 24 else if what = 2 then msum (fun k => I 18 (24 * j + k)) 24 / 24 else if what = 3 then I 22 j else if what = 4 then I 24 j else if what = 5 then I 20 j else -1))) n K J L R) := by
  refine Zm_of (lg := false) (by decide) (fun _ => by simp [Value.category]) (fun _ => Nat.le_of_ble_eq_true rfl) ?_
  show Zf x8_field 0 0 0 (zargs [.ref 0, .int (nI j), .int what]) [] ((n, K, J, L, R)) _
  generalize hQ0 : (kQ (some (.int (if what = 0 then I 17 j else if what = 1 then mleast (fun k => I 18 (24 * j + k)) 24 else if what = 2 then msum (fun k => I 18 (24 * j + k)) 24 / 24 else if what = 3 then I 22 j else if what = 4 then I 24 j else if what = 5 then I 20 j else -1))) n K J L R : Option Value → ZH → Prop) = Q0
  obtain ⟨⟨hn28, hP6, hG60⟩, ⟨hk0, hk1, hk2, hk3, hk4, hk5, hk6, hk7⟩, ⟨hr0, hr1, hr2, hr3, hr4, hr5, hr6⟩, ⟨hr7, hr8, hr9, hr10, hr11, hr12⟩, hB8, ⟨hT11, hR17, hT13⟩, ⟨hU18, hU23, hrs⟩, ⟨hgm, hgi⟩, ⟨hpm, hpi⟩⟩ := id hG
  have hn0 : 0 < n := by omega
  have hn1 : 1 < n := by omega
  have hn2 : 2 < n := by omega
  have hn3 : 3 < n := by omega
  have hn4 : 4 < n := by omega
  have hn5 : 5 < n := by omega
  have hn6 : 6 < n := by omega
  have hn7 : 7 < n := by omega
  have hn8 : 8 < n := by omega
  have hk8 : K 8 = (5, 0) := hB8.2.2.2.1
  have hn11 : 11 < n := by omega
  have hk11 : K 11 = (10, 0) := hT11.2.2.1
  obtain ⟨⟨h13, h14, h15⟩, hdg, hdp, hdt, hdc⟩ := id hD
  obtain ⟨hpr, hpb⟩ := hpm j hj
  obtain ⟨hp28, hp5, hpk, htn0, htr0, hpn, hpo⟩ := id hpb
  obtain ⟨htna, hcna, htnk, hcnk, htn⟩ := id htn0
  obtain ⟨htra, hcoa, htrk, hcok, htr⟩ := id htr0
  have hpa : pa j < n := by omega
  obtain ⟨⟨m2, m3, m4⟩, ⟨n1, n2, n3⟩, ⟨o1, o2, o3⟩⟩ := hdp j hj
  refine z_aload_n (i := 0) dX8_field_0 rfl rfl ?_
  refine z_iload_n (i := 1) dX8_field_1 rfl rfl ?_
  refine z_callV (st := []) (mc2 := 0) (ms2 := 0) zi8_156 zv_yX8_isPitch (c8_isPitch n K J L R 0 hn0 hk0 _) dX8_field_2 hn0 (congrArg Prod.fst hk0) rfl rfl rfl (by decide) (by decide) (Nat.le_of_ble_eq_true rfl) (by decide) (by decide) (fun r h2 hq => ?_)
  obtain ⟨rfl, rfl⟩ := hq
  rw [mip1 h13 hP6 hj]
  refine z_if_ne 10 dX8_field_5 (by decide) (fun _ => ?_) (fun c_1 => absurd c_1 (by decide))
  refine z_aload_n (i := 0) dX8_field_10 rfl rfl ?_
  refine z_gR zf8_11.g dX8_field_11 hn0 hk0 hr0 ?_
  refine z_iload_n (i := 1) dX8_field_14 rfl rfl ?_
  refine z_aaldP dX8_field_15 hn1 hk1 (zvin (by omega) (by omega)) (by rw [zcl (by omega)]; exact hpr) ?_
  refine z_astore_n (i := 3) dX8_field_16 rfl (by decide) rfl ?_
  refine z_iload_n (i := 2) dX8_field_17 rfl rfl ?_
  by_cases hs0 : what = 0
  · subst hs0
    refine z_tableIn (off := 38) 56 dX8_field_18 (by decide) (by decide) (by decide) (by decide) ?_
    refine z_aload_n (i := 3) dX8_field_56 rfl rfl ?_
    refine z_gR zf8_143 dX8_field_57 hpa hpk hpn ?_
    refine z_gI zf8_159.g dX8_field_60 htna htnk ?_
    refine z_iret dX8_field_63 rfl ?_
    subst hQ0
    rw [n1]
    exact ⟨by rw [if_pos rfl], rfl⟩
  by_cases hs1 : what = 1
  · subst hs1
    refine z_tableIn (off := 46) 64 dX8_field_18 (by decide) (by decide) (by decide) (by decide) ?_
    refine z_aload_n (i := 3) dX8_field_64 rfl rfl ?_
    refine z_gR zf8_143 dX8_field_65 hpa hpk hpn ?_
    refine z_callV (st := []) (mc2 := 0) (ms2 := 0) zi8_186 zv_yX7_least (c7_least n K J L R _ _ htn0) dX8_field_68 htna (congrArg Prod.fst htnk) rfl rfl rfl (by decide) (by decide) (Nat.le_of_ble_eq_true rfl) (by decide) (by decide) (fun r h2 hq => ?_)
    obtain ⟨rfl, rfl⟩ := hq
    refine z_iret dX8_field_71 rfl ?_
    subst hQ0
    rw [mleast_cong 24 n3]
    exact ⟨by rw [if_neg (by decide), if_pos rfl], rfl⟩
  by_cases hs2 : what = 2
  · subst hs2
    refine z_tableIn (off := 54) 72 dX8_field_18 (by decide) (by decide) (by decide) (by decide) ?_
    refine z_aload_n (i := 3) dX8_field_72 rfl rfl ?_
    refine z_gR zf8_143 dX8_field_73 hpa hpk hpn ?_
    refine z_callV (st := []) (mc2 := 0) (ms2 := 0) zi8_190 zv_yX7_mean (c7_mean n K J L R _ _ htn0) dX8_field_76 htna (congrArg Prod.fst htnk) rfl rfl rfl (by decide) (by decide) (Nat.le_of_ble_eq_true rfl) (by decide) (by decide) (fun r h2 hq => ?_)
    obtain ⟨rfl, rfl⟩ := hq
    refine z_iret dX8_field_79 rfl ?_
    subst hQ0
    rw [msum_cong 24 n3]
    exact ⟨by rw [if_neg (by decide), if_neg (by decide), if_pos rfl], rfl⟩
  by_cases hs3 : what = 3
  · subst hs3
    refine z_tableIn (off := 62) 80 dX8_field_18 (by decide) (by decide) (by decide) (by decide) ?_
    refine z_aload_n (i := 3) dX8_field_80 rfl rfl ?_
    refine z_gI zf8_193.g dX8_field_81 hpa hpk ?_
    refine z_iret dX8_field_84 rfl ?_
    subst hQ0
    rw [m2]
    exact ⟨by rw [if_neg (by decide), if_neg (by decide), if_neg (by decide), if_pos rfl], rfl⟩
  by_cases hs4 : what = 4
  · subst hs4
    refine z_tableIn (off := 67) 85 dX8_field_18 (by decide) (by decide) (by decide) (by decide) ?_
    refine z_aload_n (i := 3) dX8_field_85 rfl rfl ?_
    refine z_gI zf8_196.g dX8_field_86 hpa hpk ?_
    refine z_iret dX8_field_89 rfl ?_
    subst hQ0
    rw [m4]
    exact ⟨by rw [if_neg (by decide), if_neg (by decide), if_neg (by decide), if_neg (by decide), if_pos rfl], rfl⟩
  by_cases hs5 : what = 5
  · subst hs5
    refine z_tableIn (off := 72) 90 dX8_field_18 (by decide) (by decide) (by decide) (by decide) ?_
    refine z_aload_n (i := 3) dX8_field_90 rfl rfl ?_
    refine z_gR zf8_143 dX8_field_91 hpa hpk hpn ?_
    refine z_gI zf8_199.g dX8_field_94 htna htnk ?_
    refine z_iret dX8_field_97 rfl ?_
    subst hQ0
    rw [n2]
    exact ⟨by rw [if_neg (by decide), if_neg (by decide), if_neg (by decide), if_neg (by decide), if_neg (by decide), if_pos rfl], rfl⟩
  refine z_tableOut 98 dX8_field_18 (zsw 5 (by decide) (fun k hk => by rcases (show k = 0 ∨ k = 1 ∨ k = 2 ∨ k = 3 ∨ k = 4 ∨ k = 5 by omega) with rfl | rfl | rfl | rfl | rfl | rfl <;> assumption)) (by decide) ?_
  refine z_iconst (v := (-1)) dX8_field_98 (by decide) ?_
  refine z_iret dX8_field_99 rfl ?_
  subst hQ0
  exact ⟨by rw [if_neg hs0, if_neg hs1, if_neg hs2, if_neg hs3, if_neg hs4, if_neg hs5], rfl⟩
set_option maxHeartbeats 4000000 in
theorem c8_field0 (n : Nat) (K : Nat → Nat × Nat) (J : Nat → Nat → Int32) (L : Nat → Nat → Int64) (R : Nat → Nat → Option Nat) (P G : Nat) (pa ga : Nat → Nat) (ru sp : Nat) (hG : kG n K R P G pa ga ru sp) (I : Nat → Nat → Int32) (D : Nat) (hD : kD J I P G D pa ga) (p : Int32) (hp : p < 0 ∨ nI P ≤ p) (what : Int32) : Zm yX8_field cX8_field 4 (some .int) 2 80 0 0 [.ref 0, .int p, .int what] ((n, K, J, L, R)) (kQ (some (.int (-1))) n K J L R) := by
  refine Zm_of (lg := false) (by decide) (fun _ => by simp [Value.category]) (fun _ => Nat.le_of_ble_eq_true rfl) ?_
  show Zf x8_field 0 0 0 (zargs [.ref 0, .int p, .int what]) [] ((n, K, J, L, R)) _
  generalize hQ0 : (kQ (some (.int (-1))) n K J L R : Option Value → ZH → Prop) = Q0
  obtain ⟨⟨hn28, hP6, hG60⟩, ⟨hk0, hk1, hk2, hk3, hk4, hk5, hk6, hk7⟩, ⟨hr0, hr1, hr2, hr3, hr4, hr5, hr6⟩, ⟨hr7, hr8, hr9, hr10, hr11, hr12⟩, hB8, ⟨hT11, hR17, hT13⟩, ⟨hU18, hU23, hrs⟩, ⟨hgm, hgi⟩, ⟨hpm, hpi⟩⟩ := id hG
  have hn0 : 0 < n := by omega
  have hn1 : 1 < n := by omega
  have hn2 : 2 < n := by omega
  have hn3 : 3 < n := by omega
  have hn4 : 4 < n := by omega
  have hn5 : 5 < n := by omega
  have hn6 : 6 < n := by omega
  have hn7 : 7 < n := by omega
  have hn8 : 8 < n := by omega
  have hk8 : K 8 = (5, 0) := hB8.2.2.2.1
  have hn11 : 11 < n := by omega
  have hk11 : K 11 = (10, 0) := hT11.2.2.1
  obtain ⟨⟨h13, h14, h15⟩, hdg, hdp, hdt, hdc⟩ := id hD
  refine z_aload_n (i := 0) dX8_field_0 rfl rfl ?_
  refine z_iload_n (i := 1) dX8_field_1 rfl rfl ?_
  refine z_callV (st := []) (mc2 := 0) (ms2 := 0) zi8_156 zv_yX8_isPitch (c8_isPitch n K J L R 0 hn0 hk0 _) dX8_field_2 hn0 (congrArg Prod.fst hk0) rfl rfl rfl (by decide) (by decide) (Nat.le_of_ble_eq_true rfl) (by decide) (by decide) (fun r h2 hq => ?_)
  obtain ⟨rfl, rfl⟩ := hq
  rw [mip0 (by rw [h13]; exact hp)]
  refine z_if_ne 10 dX8_field_5 (by decide) (fun c_1 => absurd c_1 (by decide)) (fun _ => ?_)
  refine z_iconst (v := (-1)) dX8_field_8 (by decide) ?_
  refine z_iret dX8_field_9 rfl ?_
  subst hQ0
  exact ⟨rfl, rfl⟩
abbrev x8_would : ZX := (RX8, cX8_would, 4, (some .int), "would", 2, 80, false)
set_option maxHeartbeats 4000000 in
theorem c8_would (n : Nat) (K : Nat → Nat × Nat) (J : Nat → Nat → Int32) (L : Nat → Nat → Int64) (R : Nat → Nat → Option Nat) (P G : Nat) (pa ga : Nat → Nat) (ru sp : Nat) (hG : kG n K R P G pa ga ru sp) (I : Nat → Nat → Int32) (D : Nat) (hD : kD J I P G D pa ga) (j : Nat) (hj : j < P) (what : Int32) : Zm yX8_would cX8_would 4 (some .int) 2 80 0 0 [.ref 0, .int (nI j), .int what] ((n, K, J, L, R)) (kQ (some (.int (if what = 0 then mleast (fun k => I 19 (24 * j + k)) 24 else if what = 1 then msum (fun k => I 19 (24 * j + k)) 24 / 24 else if what = 2 then I 21 j else -1))) n K J L R) := by
  refine Zm_of (lg := false) (by decide) (fun _ => by simp [Value.category]) (fun _ => Nat.le_of_ble_eq_true rfl) ?_
  show Zf x8_would 0 0 0 (zargs [.ref 0, .int (nI j), .int what]) [] ((n, K, J, L, R)) _
  generalize hQ0 : (kQ (some (.int (if what = 0 then mleast (fun k => I 19 (24 * j + k)) 24 else if what = 1 then msum (fun k => I 19 (24 * j + k)) 24 / 24 else if what = 2 then I 21 j else -1))) n K J L R : Option Value → ZH → Prop) = Q0
  obtain ⟨⟨hn28, hP6, hG60⟩, ⟨hk0, hk1, hk2, hk3, hk4, hk5, hk6, hk7⟩, ⟨hr0, hr1, hr2, hr3, hr4, hr5, hr6⟩, ⟨hr7, hr8, hr9, hr10, hr11, hr12⟩, hB8, ⟨hT11, hR17, hT13⟩, ⟨hU18, hU23, hrs⟩, ⟨hgm, hgi⟩, ⟨hpm, hpi⟩⟩ := id hG
  have hn0 : 0 < n := by omega
  have hn1 : 1 < n := by omega
  have hn2 : 2 < n := by omega
  have hn3 : 3 < n := by omega
  have hn4 : 4 < n := by omega
  have hn5 : 5 < n := by omega
  have hn6 : 6 < n := by omega
  have hn7 : 7 < n := by omega
  have hn8 : 8 < n := by omega
  have hk8 : K 8 = (5, 0) := hB8.2.2.2.1
  have hn11 : 11 < n := by omega
  have hk11 : K 11 = (10, 0) := hT11.2.2.1
  obtain ⟨⟨h13, h14, h15⟩, hdg, hdp, hdt, hdc⟩ := id hD
  obtain ⟨hpr, hpb⟩ := hpm j hj
  obtain ⟨hp28, hp5, hpk, htn0, htr0, hpn, hpo⟩ := id hpb
  obtain ⟨htna, hcna, htnk, hcnk, htn⟩ := id htn0
  obtain ⟨htra, hcoa, htrk, hcok, htr⟩ := id htr0
  have hpa : pa j < n := by omega
  obtain ⟨⟨m2, m3, m4⟩, ⟨n1, n2, n3⟩, ⟨o1, o2, o3⟩⟩ := hdp j hj
  refine z_aload_n (i := 0) dX8_would_0 rfl rfl ?_
  refine z_iload_n (i := 1) dX8_would_1 rfl rfl ?_
  refine z_callV (st := []) (mc2 := 0) (ms2 := 0) zi8_156 zv_yX8_isPitch (c8_isPitch n K J L R 0 hn0 hk0 _) dX8_would_2 hn0 (congrArg Prod.fst hk0) rfl rfl rfl (by decide) (by decide) (Nat.le_of_ble_eq_true rfl) (by decide) (by decide) (fun r h2 hq => ?_)
  obtain ⟨rfl, rfl⟩ := hq
  rw [mip1 h13 hP6 hj]
  refine z_if_ne 10 dX8_would_5 (by decide) (fun _ => ?_) (fun c_1 => absurd c_1 (by decide))
  refine z_aload_n (i := 0) dX8_would_10 rfl rfl ?_
  refine z_gR zf8_11.g dX8_would_11 hn0 hk0 hr0 ?_
  refine z_iload_n (i := 1) dX8_would_14 rfl rfl ?_
  refine z_aaldP dX8_would_15 hn1 hk1 (zvin (by omega) (by omega)) (by rw [zcl (by omega)]; exact hpr) ?_
  refine z_gR zf8_153 dX8_would_16 hpa hpk hpo ?_
  refine z_astore_n (i := 3) dX8_would_19 rfl (by decide) rfl ?_
  refine z_iload_n (i := 2) dX8_would_20 rfl rfl ?_
  by_cases hs0 : what = 0
  · subst hs0
    refine z_tableIn (off := 27) 48 dX8_would_21 (by decide) (by decide) (by decide) (by decide) ?_
    refine z_aload_n (i := 3) dX8_would_48 rfl rfl ?_
    refine z_callV (st := []) (mc2 := 0) (ms2 := 0) zi8_186 zv_yX7_least (c7_least n K J L R _ _ htr0) dX8_would_49 htra (congrArg Prod.fst htrk) rfl rfl rfl (by decide) (by decide) (Nat.le_of_ble_eq_true rfl) (by decide) (by decide) (fun r h2 hq => ?_)
    obtain ⟨rfl, rfl⟩ := hq
    refine z_iret dX8_would_52 rfl ?_
    subst hQ0
    rw [mleast_cong 24 o3]
    exact ⟨by rw [if_pos rfl], rfl⟩
  by_cases hs1 : what = 1
  · subst hs1
    refine z_tableIn (off := 32) 53 dX8_would_21 (by decide) (by decide) (by decide) (by decide) ?_
    refine z_aload_n (i := 3) dX8_would_53 rfl rfl ?_
    refine z_callV (st := []) (mc2 := 0) (ms2 := 0) zi8_190 zv_yX7_mean (c7_mean n K J L R _ _ htr0) dX8_would_54 htra (congrArg Prod.fst htrk) rfl rfl rfl (by decide) (by decide) (Nat.le_of_ble_eq_true rfl) (by decide) (by decide) (fun r h2 hq => ?_)
    obtain ⟨rfl, rfl⟩ := hq
    refine z_iret dX8_would_57 rfl ?_
    subst hQ0
    rw [msum_cong 24 o3]
    exact ⟨by rw [if_neg (by decide), if_pos rfl], rfl⟩
  by_cases hs2 : what = 2
  · subst hs2
    refine z_tableIn (off := 37) 58 dX8_would_21 (by decide) (by decide) (by decide) (by decide) ?_
    refine z_aload_n (i := 3) dX8_would_58 rfl rfl ?_
    refine z_gI zf8_199.g dX8_would_59 htra htrk ?_
    refine z_iret dX8_would_62 rfl ?_
    subst hQ0
    rw [o2]
    exact ⟨by rw [if_neg (by decide), if_neg (by decide), if_pos rfl], rfl⟩
  refine z_tableOut 63 dX8_would_21 (zsw 2 (by decide) (fun k hk => by rcases (show k = 0 ∨ k = 1 ∨ k = 2 by omega) with rfl | rfl | rfl <;> assumption)) (by decide) ?_
  refine z_iconst (v := (-1)) dX8_would_63 (by decide) ?_
  refine z_iret dX8_would_64 rfl ?_
  subst hQ0
  exact ⟨by rw [if_neg hs0, if_neg hs1, if_neg hs2], rfl⟩
set_option maxHeartbeats 4000000 in
theorem c8_would0 (n : Nat) (K : Nat → Nat × Nat) (J : Nat → Nat → Int32) (L : Nat → Nat → Int64) (R : Nat → Nat → Option Nat) (P G : Nat) (pa ga : Nat → Nat) (ru sp : Nat) (hG : kG n K R P G pa ga ru sp) (I : Nat → Nat → Int32) (D : Nat) (hD : kD J I P G D pa ga) (p : Int32) (hp : p < 0 ∨ nI P ≤ p) (what : Int32) : Zm yX8_would cX8_would 4 (some .int) 2 80 0 0 [.ref 0, .int p, .int what] ((n, K, J, L, R)) (kQ (some (.int (-1))) n K J L R) := by
  refine Zm_of (lg := false) (by decide) (fun _ => by simp [Value.category]) (fun _ => Nat.le_of_ble_eq_true rfl) ?_
  show Zf x8_would 0 0 0 (zargs [.ref 0, .int p, .int what]) [] ((n, K, J, L, R)) _
  generalize hQ0 : (kQ (some (.int (-1))) n K J L R : Option Value → ZH → Prop) = Q0
  obtain ⟨⟨hn28, hP6, hG60⟩, ⟨hk0, hk1, hk2, hk3, hk4, hk5, hk6, hk7⟩, ⟨hr0, hr1, hr2, hr3, hr4, hr5, hr6⟩, ⟨hr7, hr8, hr9, hr10, hr11, hr12⟩, hB8, ⟨hT11, hR17, hT13⟩, ⟨hU18, hU23, hrs⟩, ⟨hgm, hgi⟩, ⟨hpm, hpi⟩⟩ := id hG
  have hn0 : 0 < n := by omega
  have hn1 : 1 < n := by omega
  have hn2 : 2 < n := by omega
  have hn3 : 3 < n := by omega
  have hn4 : 4 < n := by omega
  have hn5 : 5 < n := by omega
  have hn6 : 6 < n := by omega
  have hn7 : 7 < n := by omega
  have hn8 : 8 < n := by omega
  have hk8 : K 8 = (5, 0) := hB8.2.2.2.1
  have hn11 : 11 < n := by omega
  have hk11 : K 11 = (10, 0) := hT11.2.2.1
  obtain ⟨⟨h13, h14, h15⟩, hdg, hdp, hdt, hdc⟩ := id hD
  refine z_aload_n (i := 0) dX8_would_0 rfl rfl ?_
  refine z_iload_n (i := 1) dX8_would_1 rfl rfl ?_
  refine z_callV (st := []) (mc2 := 0) (ms2 := 0) zi8_156 zv_yX8_isPitch (c8_isPitch n K J L R 0 hn0 hk0 _) dX8_would_2 hn0 (congrArg Prod.fst hk0) rfl rfl rfl (by decide) (by decide) (Nat.le_of_ble_eq_true rfl) (by decide) (by decide) (fun r h2 hq => ?_)
  obtain ⟨rfl, rfl⟩ := hq
  rw [mip0 (by rw [h13]; exact hp)]
  refine z_if_ne 10 dX8_would_5 (by decide) (fun c_1 => absurd c_1 (by decide)) (fun _ => ?_)
  refine z_iconst (v := (-1)) dX8_would_8 (by decide) ?_
  refine z_iret dX8_would_9 rfl ?_
  subst hQ0
  exact ⟨rfl, rfl⟩
abbrev x8_grass : ZX := (RX8, cX8_grass, 4, (some .int), "grass", 1, 40, false)
set_option maxHeartbeats 4000000 in
theorem c8_grass (n : Nat) (K : Nat → Nat × Nat) (J : Nat → Nat → Int32) (L : Nat → Nat → Int64) (R : Nat → Nat → Option Nat) (P G : Nat) (pa ga : Nat → Nat) (ru sp : Nat) (hG : kG n K R P G pa ga ru sp) (I : Nat → Nat → Int32) (D : Nat) (hD : kD J I P G D pa ga) (j r c : Nat) (hj : j < P) (hr : r < 4) (hc : c < 6) : Zm yX8_grass cX8_grass 4 (some .int) 1 40 0 0 [.ref 0, .int (nI j), .int (nI r), .int (nI c)] ((n, K, J, L, R)) (kQ (some (.int (I 18 (24 * j + 6 * r + c)))) n K J L R) := by
  refine Zm_of (lg := false) (by decide) (fun _ => by simp [Value.category]) (fun _ => Nat.le_of_ble_eq_true rfl) ?_
  show Zf x8_grass 0 0 0 (zargs [.ref 0, .int (nI j), .int (nI r), .int (nI c)]) [] ((n, K, J, L, R)) _
  generalize hQ0 : (kQ (some (.int (I 18 (24 * j + 6 * r + c)))) n K J L R : Option Value → ZH → Prop) = Q0
  obtain ⟨⟨hn28, hP6, hG60⟩, ⟨hk0, hk1, hk2, hk3, hk4, hk5, hk6, hk7⟩, ⟨hr0, hr1, hr2, hr3, hr4, hr5, hr6⟩, ⟨hr7, hr8, hr9, hr10, hr11, hr12⟩, hB8, ⟨hT11, hR17, hT13⟩, ⟨hU18, hU23, hrs⟩, ⟨hgm, hgi⟩, ⟨hpm, hpi⟩⟩ := id hG
  have hn0 : 0 < n := by omega
  have hn1 : 1 < n := by omega
  have hn2 : 2 < n := by omega
  have hn3 : 3 < n := by omega
  have hn4 : 4 < n := by omega
  have hn5 : 5 < n := by omega
  have hn6 : 6 < n := by omega
  have hn7 : 7 < n := by omega
  have hn8 : 8 < n := by omega
  have hk8 : K 8 = (5, 0) := hB8.2.2.2.1
  have hn11 : 11 < n := by omega
  have hk11 : K 11 = (10, 0) := hT11.2.2.1
  obtain ⟨⟨h13, h14, h15⟩, hdg, hdp, hdt, hdc⟩ := id hD
  obtain ⟨hpr, hpb⟩ := hpm j hj
  obtain ⟨hp28, hp5, hpk, htn0, htr0, hpn, hpo⟩ := id hpb
  obtain ⟨htna, hcna, htnk, hcnk, htn⟩ := id htn0
  obtain ⟨htra, hcoa, htrk, hcok, htr⟩ := id htr0
  have hpa : pa j < n := by omega
  obtain ⟨⟨m2, m3, m4⟩, ⟨n1, n2, n3⟩, ⟨o1, o2, o3⟩⟩ := hdp j hj
  refine z_aload_n (i := 0) dX8_grass_0 rfl rfl ?_
  refine z_iload_n (i := 1) dX8_grass_1 rfl rfl ?_
  refine z_callV (st := []) (mc2 := 0) (ms2 := 0) zi8_156 zv_yX8_isPitch (c8_isPitch n K J L R 0 hn0 hk0 _) dX8_grass_2 hn0 (congrArg Prod.fst hk0) rfl rfl rfl (by decide) (by decide) (Nat.le_of_ble_eq_true rfl) (by decide) (by decide) (fun r h2 hq => ?_)
  obtain ⟨rfl, rfl⟩ := hq
  rw [mip1 h13 hP6 hj]
  refine z_if_eq 27 dX8_grass_5 (by decide) (fun c_1 => absurd c_1 (by decide)) (fun _ => ?_)
  refine z_iload_n (i := 2) dX8_grass_8 rfl rfl ?_
  refine z_if_lt 27 dX8_grass_9 (by decide) (fun c_2 => absurd c_2 (fun q => nI_pos (by omega) q)) (fun _ => ?_)
  refine z_iload_n (i := 2) dX8_grass_12 rfl rfl ?_
  refine z_iconst (v := 4) dX8_grass_13 (by decide) ?_
  refine z_icmp_ge 27 dX8_grass_14 (by decide) (fun c_3 => absurd c_3 (fun q => by have := (zle (a := 4) (b := r) (by omega) (by omega)).mp q; omega)) (fun _ => ?_)
  refine z_iload_n (i := 3) dX8_grass_17 rfl rfl ?_
  refine z_if_lt 27 dX8_grass_18 (by decide) (fun c_4 => absurd c_4 (fun q => nI_pos (by omega) q)) (fun _ => ?_)
  refine z_iload_n (i := 3) dX8_grass_21 rfl rfl ?_
  refine z_bipush (v := 6) dX8_grass_22 (by decide) ?_
  refine z_icmp_lt 29 dX8_grass_24 (by decide) (fun _ => ?_) (fun c_5 => absurd ((zlt (a := c) (b := 6) (by omega) (by omega)).mpr hc) c_5)
  refine z_aload_n (i := 0) dX8_grass_29 rfl rfl ?_
  refine z_gR zf8_11.g dX8_grass_30 hn0 hk0 hr0 ?_
  refine z_iload_n (i := 1) dX8_grass_33 rfl rfl ?_
  refine z_aaldP dX8_grass_34 hn1 hk1 (zvin (by omega) (by omega)) (by rw [zcl (by omega)]; exact hpr) ?_
  refine z_gR zf8_143 dX8_grass_35 hpa hpk hpn ?_
  refine z_gR zf8_162 dX8_grass_38 htna htnk htn ?_
  refine z_iload_n (i := 2) dX8_grass_41 rfl rfl ?_
  refine z_bipush (v := 6) dX8_grass_42 (by decide) ?_
  refine z_imul dX8_grass_44 ?_
  refine z_iload_n (i := 3) dX8_grass_45 rfl rfl ?_
  refine z_iadd dX8_grass_46 ?_
  refine z_top (y := .int (nI (6 * r + c))) (by rw [zl6, pk_mul, nI_add, Nat.mul_comm]) ?_
  refine z_iald dX8_grass_47 hcna hcnk (zvin (by omega) (by omega)) ?_
  rw [zcl (by omega), n3 _ (by omega)]
  refine z_iret dX8_grass_48 rfl ?_
  subst hQ0
  rw [← Nat.add_assoc]
  exact ⟨rfl, rfl⟩
set_option maxHeartbeats 4000000 in
theorem c8_grass0 (n : Nat) (K : Nat → Nat × Nat) (J : Nat → Nat → Int32) (L : Nat → Nat → Int64) (R : Nat → Nat → Option Nat) (P G : Nat) (pa ga : Nat → Nat) (ru sp : Nat) (hG : kG n K R P G pa ga ru sp) (I : Nat → Nat → Int32) (D : Nat) (hD : kD J I P G D pa ga) (p r c : Int32) (hb : p < 0 ∨ nI P ≤ p ∨ r < 0 ∨ 3 < r ∨ c < 0 ∨ 5 < c) : Zm yX8_grass cX8_grass 4 (some .int) 1 40 0 0 [.ref 0, .int p, .int r, .int c] ((n, K, J, L, R)) (kQ (some (.int (-1))) n K J L R) := by
  refine Zm_of (lg := false) (by decide) (fun _ => by simp [Value.category]) (fun _ => Nat.le_of_ble_eq_true rfl) ?_
  show Zf x8_grass 0 0 0 (zargs [.ref 0, .int p, .int r, .int c]) [] ((n, K, J, L, R)) _
  generalize hQ0 : (kQ (some (.int (-1))) n K J L R : Option Value → ZH → Prop) = Q0
  obtain ⟨⟨hn28, hP6, hG60⟩, ⟨hk0, hk1, hk2, hk3, hk4, hk5, hk6, hk7⟩, ⟨hr0, hr1, hr2, hr3, hr4, hr5, hr6⟩, ⟨hr7, hr8, hr9, hr10, hr11, hr12⟩, hB8, ⟨hT11, hR17, hT13⟩, ⟨hU18, hU23, hrs⟩, ⟨hgm, hgi⟩, ⟨hpm, hpi⟩⟩ := id hG
  have hn0 : 0 < n := by omega
  have hn1 : 1 < n := by omega
  have hn2 : 2 < n := by omega
  have hn3 : 3 < n := by omega
  have hn4 : 4 < n := by omega
  have hn5 : 5 < n := by omega
  have hn6 : 6 < n := by omega
  have hn7 : 7 < n := by omega
  have hn8 : 8 < n := by omega
  have hk8 : K 8 = (5, 0) := hB8.2.2.2.1
  have hn11 : 11 < n := by omega
  have hk11 : K 11 = (10, 0) := hT11.2.2.1
  obtain ⟨⟨h13, h14, h15⟩, hdg, hdp, hdt, hdc⟩ := id hD
  refine z_aload_n (i := 0) dX8_grass_0 rfl rfl ?_
  refine z_iload_n (i := 1) dX8_grass_1 rfl rfl ?_
  refine z_callV (st := []) (mc2 := 0) (ms2 := 0) zi8_156 zv_yX8_isPitch (c8_isPitch n K J L R 0 hn0 hk0 _) dX8_grass_2 hn0 (congrArg Prod.fst hk0) rfl rfl rfl (by decide) (by decide) (Nat.le_of_ble_eq_true rfl) (by decide) (by decide) (fun r h2 hq => ?_)
  obtain ⟨rfl, rfl⟩ := hq
  rw [h13]
  refine z_if_eq 27 dX8_grass_5 (by decide) (fun c_1 => ?_) (fun c_1 => ?_)
  · skip
    refine z_iconst (v := (-1)) dX8_grass_27 (by decide) ?_
    refine z_iret dX8_grass_28 rfl ?_
    subst hQ0
    exact ⟨rfl, rfl⟩
  · skip
    refine z_iload_n (i := 2) dX8_grass_8 rfl rfl ?_
    refine z_if_lt 27 dX8_grass_9 (by decide) (fun c_2 => ?_) (fun c_2 => ?_)
    · skip
      refine z_iconst (v := (-1)) dX8_grass_27 (by decide) ?_
      refine z_iret dX8_grass_28 rfl ?_
      subst hQ0
      exact ⟨rfl, rfl⟩
    · skip
      refine z_iload_n (i := 2) dX8_grass_12 rfl rfl ?_
      refine z_iconst (v := 4) dX8_grass_13 (by decide) ?_
      refine z_icmp_ge 27 dX8_grass_14 (by decide) (fun c_3 => ?_) (fun c_3 => ?_)
      · skip
        refine z_iconst (v := (-1)) dX8_grass_27 (by decide) ?_
        refine z_iret dX8_grass_28 rfl ?_
        subst hQ0
        exact ⟨rfl, rfl⟩
      · skip
        refine z_iload_n (i := 3) dX8_grass_17 rfl rfl ?_
        refine z_if_lt 27 dX8_grass_18 (by decide) (fun c_4 => ?_) (fun c_4 => ?_)
        · skip
          refine z_iconst (v := (-1)) dX8_grass_27 (by decide) ?_
          refine z_iret dX8_grass_28 rfl ?_
          subst hQ0
          exact ⟨rfl, rfl⟩
        · skip
          refine z_iload_n (i := 3) dX8_grass_21 rfl rfl ?_
          refine z_bipush (v := 6) dX8_grass_22 (by decide) ?_
          refine z_icmp_lt 29 dX8_grass_24 (by decide) (fun c_5 => ?_) (fun c_5 => ?_)
          · skip
            subst hQ0
            exfalso
            rcases hb with h | h | h | h | h | h
            · exact c_1 (by rw [if_pos h])
            · exact c_1 (by rw [mip0 (Or.inr h)])
            · exact c_2 h
            · exact c_3 (k4_3.mpr h)
            · exact c_4 h
            · exact absurd c_5 (k6_5 h)
          · skip
            refine z_iconst (v := (-1)) dX8_grass_27 (by decide) ?_
            refine z_iret dX8_grass_28 rfl ?_
            subst hQ0
            exact ⟨rfl, rfl⟩
abbrev x8_club : ZX := (RX8, cX8_club, 3, (some .int), "club", 1, 40, false)
set_option maxHeartbeats 4000000 in
theorem c8_club (n : Nat) (K : Nat → Nat × Nat) (J : Nat → Nat → Int32) (L : Nat → Nat → Int64) (R : Nat → Nat → Option Nat) (P G : Nat) (pa ga : Nat → Nat) (ru sp : Nat) (hG : kG n K R P G pa ga ru sp) (I : Nat → Nat → Int32) (D : Nat) (hD : kD J I P G D pa ga) (c : Nat) (hc : c < 16) (what : Int32) : Zm yX8_club cX8_club 3 (some .int) 1 40 0 0 [.ref 0, .int (nI c), .int what] ((n, K, J, L, R)) (kQ (some (.int (if what = 0 then mnof I (nI c) 2 G else if what = 1 then I 34 c else if what = 2 then mnof I (nI c) 3 G else -1))) n K J L R) := by
  refine Zm_of (lg := false) (by decide) (fun _ => by simp [Value.category]) (fun _ => Nat.le_of_ble_eq_true rfl) ?_
  show Zf x8_club 0 0 0 (zargs [.ref 0, .int (nI c), .int what]) [] ((n, K, J, L, R)) _
  generalize hQ0 : (kQ (some (.int (if what = 0 then mnof I (nI c) 2 G else if what = 1 then I 34 c else if what = 2 then mnof I (nI c) 3 G else -1))) n K J L R : Option Value → ZH → Prop) = Q0
  obtain ⟨⟨hn28, hP6, hG60⟩, ⟨hk0, hk1, hk2, hk3, hk4, hk5, hk6, hk7⟩, ⟨hr0, hr1, hr2, hr3, hr4, hr5, hr6⟩, ⟨hr7, hr8, hr9, hr10, hr11, hr12⟩, hB8, ⟨hT11, hR17, hT13⟩, ⟨hU18, hU23, hrs⟩, ⟨hgm, hgi⟩, ⟨hpm, hpi⟩⟩ := id hG
  have hn0 : 0 < n := by omega
  have hn1 : 1 < n := by omega
  have hn2 : 2 < n := by omega
  have hn3 : 3 < n := by omega
  have hn4 : 4 < n := by omega
  have hn5 : 5 < n := by omega
  have hn6 : 6 < n := by omega
  have hn7 : 7 < n := by omega
  have hn8 : 8 < n := by omega
  have hk8 : K 8 = (5, 0) := hB8.2.2.2.1
  have hn11 : 11 < n := by omega
  have hk11 : K 11 = (10, 0) := hT11.2.2.1
  obtain ⟨⟨h13, h14, h15⟩, hdg, hdp, hdt, hdc⟩ := id hD
  obtain ⟨d4, d5, d6⟩ := hdc c hc
  refine z_iload_n (i := 1) dX8_club_0 rfl rfl ?_
  refine z_callS (st := []) (mc2 := 0) (ms2 := 0) zi8_90 zs_yX8_isClub (c8_isClub n K J L R _) dX8_club_1 rfl rfl (by decide) (by decide) (Nat.le_of_ble_eq_true rfl) (by decide) (by decide) (fun r h2 hq => ?_)
  obtain ⟨rfl, rfl⟩ := hq
  rw [kicl hc]
  refine z_if_ne 9 dX8_club_4 (by decide) (fun _ => ?_) (fun c_1 => absurd c_1 (by decide))
  refine z_iload_n (i := 2) dX8_club_9 rfl rfl ?_
  by_cases hs0 : what = 0
  · subst hs0
    refine z_tableIn (off := 26) 36 dX8_club_10 (by decide) (by decide) (by decide) (by decide) ?_
    refine z_aload_n (i := 0) dX8_club_36 rfl rfl ?_
    refine z_gR zf8_25.g dX8_club_37 hn0 hk0 hr3 ?_
    refine z_iload_n (i := 1) dX8_club_40 rfl rfl ?_
    refine z_iald dX8_club_41 hn4 hk4 (zvin (by omega) (by omega)) ?_
    rw [zcl (by omega), d4]
    refine z_iret dX8_club_42 rfl ?_
    subst hQ0
    exact ⟨by rw [if_pos rfl], rfl⟩
  by_cases hs1 : what = 1
  · subst hs1
    refine z_tableIn (off := 33) 43 dX8_club_10 (by decide) (by decide) (by decide) (by decide) ?_
    refine z_aload_n (i := 0) dX8_club_43 rfl rfl ?_
    refine z_gR zf8_28.g dX8_club_44 hn0 hk0 hr4 ?_
    refine z_iload_n (i := 1) dX8_club_47 rfl rfl ?_
    refine z_iald dX8_club_48 hn5 hk5 (zvin (by omega) (by omega)) ?_
    rw [zcl (by omega), d5]
    refine z_iret dX8_club_49 rfl ?_
    subst hQ0
    exact ⟨by rw [if_neg (by decide), if_pos rfl], rfl⟩
  by_cases hs2 : what = 2
  · subst hs2
    refine z_tableIn (off := 40) 50 dX8_club_10 (by decide) (by decide) (by decide) (by decide) ?_
    refine z_aload_n (i := 0) dX8_club_50 rfl rfl ?_
    refine z_gR zf8_31.g dX8_club_51 hn0 hk0 hr5 ?_
    refine z_iload_n (i := 1) dX8_club_54 rfl rfl ?_
    refine z_iald dX8_club_55 hn6 hk6 (zvin (by omega) (by omega)) ?_
    rw [zcl (by omega), d6]
    refine z_iret dX8_club_56 rfl ?_
    subst hQ0
    exact ⟨by rw [if_neg (by decide), if_neg (by decide), if_pos rfl], rfl⟩
  refine z_tableOut 57 dX8_club_10 (zsw 2 (by decide) (fun k hk => by rcases (show k = 0 ∨ k = 1 ∨ k = 2 by omega) with rfl | rfl | rfl <;> assumption)) (by decide) ?_
  refine z_iconst (v := (-1)) dX8_club_57 (by decide) ?_
  refine z_iret dX8_club_58 rfl ?_
  subst hQ0
  exact ⟨by rw [if_neg hs0, if_neg hs1, if_neg hs2], rfl⟩
set_option maxHeartbeats 4000000 in
theorem c8_club0 (n : Nat) (K : Nat → Nat × Nat) (J : Nat → Nat → Int32) (L : Nat → Nat → Int64) (R : Nat → Nat → Option Nat) (P G : Nat) (pa ga : Nat → Nat) (ru sp : Nat) (hG : kG n K R P G pa ga ru sp) (I : Nat → Nat → Int32) (D : Nat) (hD : kD J I P G D pa ga) (c what : Int32) (hc : c < 0 ∨ nI 16 ≤ c) : Zm yX8_club cX8_club 3 (some .int) 1 40 0 0 [.ref 0, .int c, .int what] ((n, K, J, L, R)) (kQ (some (.int (-1))) n K J L R) := by
  refine Zm_of (lg := false) (by decide) (fun _ => by simp [Value.category]) (fun _ => Nat.le_of_ble_eq_true rfl) ?_
  show Zf x8_club 0 0 0 (zargs [.ref 0, .int c, .int what]) [] ((n, K, J, L, R)) _
  generalize hQ0 : (kQ (some (.int (-1))) n K J L R : Option Value → ZH → Prop) = Q0
  obtain ⟨⟨hn28, hP6, hG60⟩, ⟨hk0, hk1, hk2, hk3, hk4, hk5, hk6, hk7⟩, ⟨hr0, hr1, hr2, hr3, hr4, hr5, hr6⟩, ⟨hr7, hr8, hr9, hr10, hr11, hr12⟩, hB8, ⟨hT11, hR17, hT13⟩, ⟨hU18, hU23, hrs⟩, ⟨hgm, hgi⟩, ⟨hpm, hpi⟩⟩ := id hG
  have hn0 : 0 < n := by omega
  have hn1 : 1 < n := by omega
  have hn2 : 2 < n := by omega
  have hn3 : 3 < n := by omega
  have hn4 : 4 < n := by omega
  have hn5 : 5 < n := by omega
  have hn6 : 6 < n := by omega
  have hn7 : 7 < n := by omega
  have hn8 : 8 < n := by omega
  have hk8 : K 8 = (5, 0) := hB8.2.2.2.1
  have hn11 : 11 < n := by omega
  have hk11 : K 11 = (10, 0) := hT11.2.2.1
  obtain ⟨⟨h13, h14, h15⟩, hdg, hdp, hdt, hdc⟩ := id hD
  refine z_iload_n (i := 1) dX8_club_0 rfl rfl ?_
  refine z_callS (st := []) (mc2 := 0) (ms2 := 0) zi8_90 zs_yX8_isClub (c8_isClub n K J L R _) dX8_club_1 rfl rfl (by decide) (by decide) (Nat.le_of_ble_eq_true rfl) (by decide) (by decide) (fun r h2 hq => ?_)
  obtain ⟨rfl, rfl⟩ := hq
  rw [show (if c < 0 then (0 : Int32) else if 16 ≤ c then 0 else 1) = 0 from mip0 hc]
  refine z_if_ne 9 dX8_club_4 (by decide) (fun c_1 => absurd c_1 (by decide)) (fun _ => ?_)
  refine z_iconst (v := (-1)) dX8_club_7 (by decide) ?_
  refine z_iret dX8_club_8 rfl ?_
  subst hQ0
  exact ⟨rfl, rfl⟩
abbrev x8_count : ZX := (RX8, cX8_count, 2, (some .int), "count", 1, 40, false)
set_option maxHeartbeats 4000000 in
theorem c8_count (n : Nat) (K : Nat → Nat × Nat) (J : Nat → Nat → Int32) (L : Nat → Nat → Int64) (R : Nat → Nat → Option Nat) (P G : Nat) (pa ga : Nat → Nat) (ru sp : Nat) (hG : kG n K R P G pa ga ru sp) (I : Nat → Nat → Int32) (D : Nat) (hD : kD J I P G D pa ga) (T l : Nat) (hT : J 11 1 = nI T) (hl : J ru 6 = nI l) (what : Int32) : Zm yX8_count cX8_count 2 (some .int) 1 40 0 0 [.ref 0, .int what] ((n, K, J, L, R)) (kQ (some (.int (if what = 0 then nI P else if what = 1 then nI G else if what = 2 then nI D else if what = 3 then mnth I 0 G else if what = 4 then mnth I 1 G else if what = 5 then mnth I 2 G else if what = 6 then mnth I 3 G else if what = 7 then nI l else if what = 8 then nI T else if what = 9 then mshs I P else -1))) n K J L R) := by
  refine Zm_of (lg := false) (by decide) (fun _ => by simp [Value.category]) (fun _ => Nat.le_of_ble_eq_true rfl) ?_
  show Zf x8_count 0 0 0 (zargs [.ref 0, .int what]) [] ((n, K, J, L, R)) _
  generalize hQ0 : (kQ (some (.int (if what = 0 then nI P else if what = 1 then nI G else if what = 2 then nI D else if what = 3 then mnth I 0 G else if what = 4 then mnth I 1 G else if what = 5 then mnth I 2 G else if what = 6 then mnth I 3 G else if what = 7 then nI l else if what = 8 then nI T else if what = 9 then mshs I P else -1))) n K J L R : Option Value → ZH → Prop) = Q0
  obtain ⟨⟨hn28, hP6, hG60⟩, ⟨hk0, hk1, hk2, hk3, hk4, hk5, hk6, hk7⟩, ⟨hr0, hr1, hr2, hr3, hr4, hr5, hr6⟩, ⟨hr7, hr8, hr9, hr10, hr11, hr12⟩, hB8, ⟨hT11, hR17, hT13⟩, ⟨hU18, hU23, hrs⟩, ⟨hgm, hgi⟩, ⟨hpm, hpi⟩⟩ := id hG
  have hn0 : 0 < n := by omega
  have hn1 : 1 < n := by omega
  have hn2 : 2 < n := by omega
  have hn3 : 3 < n := by omega
  have hn4 : 4 < n := by omega
  have hn5 : 5 < n := by omega
  have hn6 : 6 < n := by omega
  have hn7 : 7 < n := by omega
  have hn8 : 8 < n := by omega
  have hk8 : K 8 = (5, 0) := hB8.2.2.2.1
  have hn11 : 11 < n := by omega
  have hk11 : K 11 = (10, 0) := hT11.2.2.1
  obtain ⟨⟨h13, h14, h15⟩, hdg, hdp, hdt, hdc⟩ := id hD
  have hnru : ru < n := hG.ru.1.1.1
  have hkru : K ru = (9, 0) := hG.ru.1.2.1.1
  refine z_iload_n (i := 1) dX8_count_0 rfl rfl ?_
  by_cases hs0 : what = 0
  · subst hs0
    refine z_tableIn (off := 55) 56 dX8_count_1 (by decide) (by decide) (by decide) (by decide) ?_
    refine z_aload_n (i := 0) dX8_count_56 rfl rfl ?_
    refine z_gI zf8_77.g dX8_count_57 hn0 hk0 ?_
    refine z_iret dX8_count_60 rfl ?_
    subst hQ0
    rw [h13]
    exact ⟨by rw [if_pos rfl], rfl⟩
  by_cases hs1 : what = 1
  · subst hs1
    refine z_tableIn (off := 60) 61 dX8_count_1 (by decide) (by decide) (by decide) (by decide) ?_
    refine z_aload_n (i := 0) dX8_count_61 rfl rfl ?_
    refine z_gI zf8_81.g dX8_count_62 hn0 hk0 ?_
    refine z_iret dX8_count_65 rfl ?_
    subst hQ0
    rw [h14]
    exact ⟨by rw [if_neg (by decide), if_pos rfl], rfl⟩
  by_cases hs2 : what = 2
  · subst hs2
    refine z_tableIn (off := 65) 66 dX8_count_1 (by decide) (by decide) (by decide) (by decide) ?_
    refine z_aload_n (i := 0) dX8_count_66 rfl rfl ?_
    refine z_gI zf8_84.g dX8_count_67 hn0 hk0 ?_
    refine z_iret dX8_count_70 rfl ?_
    subst hQ0
    rw [h15]
    exact ⟨by rw [if_neg (by decide), if_neg (by decide), if_pos rfl], rfl⟩
  by_cases hs3 : what = 3
  · subst hs3
    refine z_tableIn (off := 70) 71 dX8_count_1 (by decide) (by decide) (by decide) (by decide) ?_
    refine z_aload_n (i := 0) dX8_count_71 rfl rfl ?_
    refine z_iconst (v := 0) dX8_count_72 (by decide) ?_
    refine z_callV (st := []) (mc2 := 0) (ms2 := 0) zi8_202 zv_yX8_gamesThatAre (c8_gamesThatAre n K J L R P G pa ga ru sp hG 0 h14) dX8_count_73 hn0 (congrArg Prod.fst hk0) rfl rfl rfl (by decide) (by decide) (Nat.le_of_ble_eq_true rfl) (by decide) (by decide) (fun r h2 hq => ?_)
    obtain ⟨rfl, rfl⟩ := hq
    rw [kcnt_nth G (fun g hg => (hdg g hg).2.2.2.1)]
    refine z_iret dX8_count_76 rfl ?_
    subst hQ0
    exact ⟨by rw [if_neg (by decide), if_neg (by decide), if_neg (by decide), if_pos rfl], rfl⟩
  by_cases hs4 : what = 4
  · subst hs4
    refine z_tableIn (off := 76) 77 dX8_count_1 (by decide) (by decide) (by decide) (by decide) ?_
    refine z_aload_n (i := 0) dX8_count_77 rfl rfl ?_
    refine z_iconst (v := 1) dX8_count_78 (by decide) ?_
    refine z_callV (st := []) (mc2 := 0) (ms2 := 0) zi8_202 zv_yX8_gamesThatAre (c8_gamesThatAre n K J L R P G pa ga ru sp hG 1 h14) dX8_count_79 hn0 (congrArg Prod.fst hk0) rfl rfl rfl (by decide) (by decide) (Nat.le_of_ble_eq_true rfl) (by decide) (by decide) (fun r h2 hq => ?_)
    obtain ⟨rfl, rfl⟩ := hq
    rw [kcnt_nth G (fun g hg => (hdg g hg).2.2.2.1)]
    refine z_iret dX8_count_82 rfl ?_
    subst hQ0
    exact ⟨by rw [if_neg (by decide), if_neg (by decide), if_neg (by decide), if_neg (by decide), if_pos rfl], rfl⟩
  by_cases hs5 : what = 5
  · subst hs5
    refine z_tableIn (off := 82) 83 dX8_count_1 (by decide) (by decide) (by decide) (by decide) ?_
    refine z_aload_n (i := 0) dX8_count_83 rfl rfl ?_
    refine z_iconst (v := 2) dX8_count_84 (by decide) ?_
    refine z_callV (st := []) (mc2 := 0) (ms2 := 0) zi8_202 zv_yX8_gamesThatAre (c8_gamesThatAre n K J L R P G pa ga ru sp hG 2 h14) dX8_count_85 hn0 (congrArg Prod.fst hk0) rfl rfl rfl (by decide) (by decide) (Nat.le_of_ble_eq_true rfl) (by decide) (by decide) (fun r h2 hq => ?_)
    obtain ⟨rfl, rfl⟩ := hq
    rw [kcnt_nth G (fun g hg => (hdg g hg).2.2.2.1)]
    refine z_iret dX8_count_88 rfl ?_
    subst hQ0
    exact ⟨by rw [if_neg (by decide), if_neg (by decide), if_neg (by decide), if_neg (by decide), if_neg (by decide), if_pos rfl], rfl⟩
  by_cases hs6 : what = 6
  · subst hs6
    refine z_tableIn (off := 88) 89 dX8_count_1 (by decide) (by decide) (by decide) (by decide) ?_
    refine z_aload_n (i := 0) dX8_count_89 rfl rfl ?_
    refine z_iconst (v := 3) dX8_count_90 (by decide) ?_
    refine z_callV (st := []) (mc2 := 0) (ms2 := 0) zi8_202 zv_yX8_gamesThatAre (c8_gamesThatAre n K J L R P G pa ga ru sp hG 3 h14) dX8_count_91 hn0 (congrArg Prod.fst hk0) rfl rfl rfl (by decide) (by decide) (Nat.le_of_ble_eq_true rfl) (by decide) (by decide) (fun r h2 hq => ?_)
    obtain ⟨rfl, rfl⟩ := hq
    rw [kcnt_nth G (fun g hg => (hdg g hg).2.2.2.1)]
    refine z_iret dX8_count_94 rfl ?_
    subst hQ0
    exact ⟨by rw [if_neg (by decide), if_neg (by decide), if_neg (by decide), if_neg (by decide), if_neg (by decide), if_neg (by decide), if_pos rfl], rfl⟩
  by_cases hs7 : what = 7
  · subst hs7
    refine z_tableIn (off := 94) 95 dX8_count_1 (by decide) (by decide) (by decide) (by decide) ?_
    refine z_aload_n (i := 0) dX8_count_95 rfl rfl ?_
    refine z_gR zf8_70.g dX8_count_96 hn0 hk0 hr11 ?_
    refine z_gI zf8_205.g dX8_count_99 hnru hkru ?_
    refine z_iret dX8_count_102 rfl ?_
    subst hQ0
    rw [hl]
    exact ⟨by rw [if_neg (by decide), if_neg (by decide), if_neg (by decide), if_neg (by decide), if_neg (by decide), if_neg (by decide), if_neg (by decide), if_pos rfl], rfl⟩
  by_cases hs8 : what = 8
  · subst hs8
    refine z_tableIn (off := 102) 103 dX8_count_1 (by decide) (by decide) (by decide) (by decide) ?_
    refine z_aload_n (i := 0) dX8_count_103 rfl rfl ?_
    refine z_gR zf8_49.g dX8_count_104 hn0 hk0 hr8 ?_
    refine z_gI zf8_125.g dX8_count_107 hn11 hk11 ?_
    refine z_iret dX8_count_110 rfl ?_
    subst hQ0
    rw [hT]
    exact ⟨by rw [if_neg (by decide), if_neg (by decide), if_neg (by decide), if_neg (by decide), if_neg (by decide), if_neg (by decide), if_neg (by decide), if_neg (by decide), if_pos rfl], rfl⟩
  by_cases hs9 : what = 9
  · subst hs9
    refine z_tableIn (off := 110) 111 dX8_count_1 (by decide) (by decide) (by decide) (by decide) ?_
    refine z_aload_n (i := 0) dX8_count_111 rfl rfl ?_
    refine z_callV (st := []) (mc2 := 0) (ms2 := 0) zi8_208 zv_yX8_allHoursShut (c8_allHoursShut n K J L R P G pa ga ru sp hG h13) dX8_count_112 hn0 (congrArg Prod.fst hk0) rfl rfl rfl (by decide) (by decide) (Nat.le_of_ble_eq_true rfl) (by decide) (by decide) (fun r h2 hq => ?_)
    obtain ⟨rfl, rfl⟩ := hq
    rw [ksm_shs P (fun p hp => (hdp p hp).1.2.2)]
    refine z_iret dX8_count_115 rfl ?_
    subst hQ0
    exact ⟨by rw [if_neg (by decide), if_neg (by decide), if_neg (by decide), if_neg (by decide), if_neg (by decide), if_neg (by decide), if_neg (by decide), if_neg (by decide), if_neg (by decide), if_pos rfl], rfl⟩
  refine z_tableOut 116 dX8_count_1 (zsw 9 (by decide) (fun k hk => by rcases (show k = 0 ∨ k = 1 ∨ k = 2 ∨ k = 3 ∨ k = 4 ∨ k = 5 ∨ k = 6 ∨ k = 7 ∨ k = 8 ∨ k = 9 by omega) with rfl | rfl | rfl | rfl | rfl | rfl | rfl | rfl | rfl | rfl <;> assumption)) (by decide) ?_
  refine z_iconst (v := (-1)) dX8_count_116 (by decide) ?_
  refine z_iret dX8_count_117 rfl ?_
  subst hQ0
  exact ⟨by rw [if_neg hs0, if_neg hs1, if_neg hs2, if_neg hs3, if_neg hs4, if_neg hs5, if_neg hs6, if_neg hs7, if_neg hs8, if_neg hs9], rfl⟩
