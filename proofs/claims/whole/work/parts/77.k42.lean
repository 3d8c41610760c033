theorem kD_I {P G D : Nat} {pa ga : Nat → Nat} {J I I' : Nat → Nat → Int32} (h : kD J I P G D pa ga) (hI : ∀ a, 16 ≤ a → a ≤ 34 → I' a = I a) : kD J I' P G D pa ga := by
  obtain ⟨h1, h2, h3, h4, h5⟩ := h
  exact ⟨h1, fun g hg => kGm_cong (h2 g hg) rfl (fun a x y => by rw [hI a (by omega) (by omega)]), fun p hp => kPm_cong (h3 p hp) (fun _ _ _ => rfl) (fun a x y _ _ => by rw [hI a (by omega) (by omega)]) (fun k _ => ⟨by rw [hI 18 (by decide) (by decide)], by rw [hI 19 (by decide) (by decide)]⟩), kTr_cong h4 rfl (hI 16 (by decide) (by decide)), kCl_cong h5 rfl rfl rfl (fun a ha => hI a (by omega) (by omega))⟩
theorem kOk_I {P G C : Nat} {I I' : Nat → Nat → Int32} (h : kOk I P G C) (hI : ∀ a, 25 ≤ a → a ≤ 32 → I' a = I a) : kOk I' P G C := by
  unfold kOk kIv kIg kIs kIu kIc kIp mth mhc at *
  rw [hI 25 (by decide) (by decide), hI 26 (by decide) (by decide), hI 27 (by decide) (by decide), hI 28 (by decide) (by decide), hI 29 (by decide) (by decide), hI 30 (by decide) (by decide), hI 31 (by decide) (by decide), hI 32 (by decide) (by decide)]
  exact h
/-- what isShut leaves behind: told, and the open values of the rules -/
def kFt (ru : Nat) (J M : Nat → Nat → Int32) : Prop := (∀ a, a ≠ 7 → a ≠ ru → a ≠ ru + 4 → M a = J a) ∧ (∀ j, j ≠ 5 → M ru j = J ru j) ∧ M 7 0 = J 7 0 ∧ M 7 1 = J 7 1 ∧ M 7 5 = J 7 5
theorem kFt.rf (ru : Nat) (J : Nat → Nat → Int32) : kFt ru J J := ⟨fun _ _ _ _ => rfl, fun _ _ => rfl, rfl, rfl, rfl⟩
theorem kTxt_ft {J M : Nat → Nat → Int32} {ru : Nat} {ts : List MLn} (hru : ru = 18 ∨ ru = 23) (hF : kFt ru J M) (h : kTxt J ru (ru + 1) (ru + 2) (ru + 3) ts) : kTxt M ru (ru + 1) (ru + 2) (ru + 3) ts := by
  obtain ⟨h1, h2, h3, h4⟩ := h
  exact ⟨kTx_cong (hF.1 _ (by omega) (by omega) (by omega)) (hF.1 _ (by omega) (by omega) (by omega)) (hF.1 _ (by omega) (by omega) (by omega)) ts 0 0 h1, by rw [hF.2.1 6 (by decide)]; exact h2, h3, h4⟩
def kkn (I : Nat → Nat → Int32) (D h p : Nat) (warm wet age : Int32) (j : Nat) : Int32 := if j = 0 then wet else if j = 1 then warm else if j = 2 then mleast (fun k => I 18 (24 * p + k)) 24 else if j = 3 then msum (fun k => I 18 (24 * p + k)) 24 / 24 else if j = 4 then I 23 p else if j = 5 then nI (D % 7) else if j = 6 then nI h else age
theorem mkn_kn (I : Nat → Nat → Int32) (D h p : Nat) (warm wet g : Int32) : ∀ j, j < 8 → mkn I D h p warm wet g 14 j = kkn I D h p warm wet (if 0 ≤ g then I 27 g.toNatClampNeg else -1) j := by
  intro j hj
  unfold mkn kkn
  rcases (show j = 0 ∨ j = 1 ∨ j = 2 ∨ j = 3 ∨ j = 4 ∨ j = 5 ∨ j = 6 ∨ j = 7 by omega) with rfl | rfl | rfl | rfl | rfl | rfl | rfl | rfl <;> simp [zu_apply]
abbrev x8_isShut : ZX := (RX8, cX8_isShut, 5, (some .boolean), "isShut", 4, 160, false)
set_option maxHeartbeats 4000000 in
theorem c8_isShut (n : Nat) (K : Nat → Nat × Nat) (J : Nat → Nat → Int32) (L : Nat → Nat → Int64) (R : Nat → Nat → Option Nat) (P G : Nat) (pa ga : Nat → Nat) (ru sp : Nat) (hG : kG n K R P G pa ga ru sp) (I : Nat → Nat → Int32) (D : Nat) (hD : kD J I P G D pa ga) (ts : List MLn) (hx : kTxt J ru (ru + 1) (ru + 2) (ru + 3) ts) (j h : Nat) (hj : j < P) (warm wet age : Int32) (t0 : J 7 0 = wet) (t1 : J 7 1 = warm) (t5 : J 7 5 = nI (D % 7)) : Zm yX8_isShut cX8_isShut 5 (some .boolean) 4 160 0 0 [.ref 0, .int (nI j), .int (nI h), .int age] (n, K, J, L, R) (fun r h2 => r = some (.int (zb (kshv (kkn I D h j warm wet age) ts (nI j)))) ∧ ∃ M, h2 = (n, K, M, L, R) ∧ kFt ru J M) := by
  refine Zm_of (lg := false) (by decide) (fun _ => by simp [Value.category]) (fun _ => Nat.le_of_ble_eq_true rfl) ?_
  show Zf x8_isShut 0 0 0 (zargs [.ref 0, .int (nI j), .int (nI h), .int age]) [] (n, K, J, L, R) _
  obtain ⟨⟨hn28, hP6, hG60⟩, ⟨hk0, hk1, hk2, hk3, hk4, hk5, hk6, hk7⟩, ⟨hr0, hr1, hr2, hr3, hr4, hr5, hr6⟩, ⟨hr7, hr8, hr9, hr10, hr11, hr12⟩, hB8, ⟨hT11, hR17, hT13⟩, ⟨hU18, hU23, hrs⟩, ⟨hgm, hgi⟩, ⟨hpm, hpi⟩⟩ := id hG
  have hn0 : 0 < n := by omega
  have hn1 : 1 < n := by omega
  have hn2 : 2 < n := by omega
  have hn3 : 3 < n := by omega
  have hn4 : 4 < n := by omega
  have hn5 : 5 < n := by omega
  have hn6 : 6 < n := by omega
  have hn7 : 7 < n := by omega
  have hn8 : 8 < n := by omega
  have hk8 : K 8 = (5, 0) := hB8.2.2.2.1
  have hn11 : 11 < n := by omega
  have hk11 : K 11 = (10, 0) := hT11.2.2.1
  obtain ⟨⟨h13, h14, h15⟩, hdg, hdp, hdt, hdc⟩ := id hD
  obtain ⟨hpr, hpb⟩ := hpm j hj
  obtain ⟨hp28, hp5, hpk, htn0, htr0, hpn, hpo⟩ := id hpb
  obtain ⟨htna, hcna, htnk, hcnk, htn⟩ := id htn0
  obtain ⟨htra, hcoa, htrk, hcok, htr⟩ := id htr0
  have hpa : pa j < n := by omega
  obtain ⟨⟨m2, m3, m4⟩, ⟨n1, n2, n3⟩, ⟨o1, o2, o3⟩⟩ := hdp j hj
  obtain ⟨hUr, -⟩ := hG.ru
  have hnru : ru < n := hUr.1.1
  have hkru : K ru = (9, 0) := hUr.2.1.1
  have hrr : ru = 18 ∨ ru = 23 := hrs.imp (fun q => q.1) (fun q => q.1)
  obtain ⟨x1, x2, x3, x4⟩ := id hx
  by_cases hz : ts.length = 0
  · have hts : ts = [] := List.length_eq_zero_iff.mp hz
    subst hts
    refine z_aload_n (i := 0) dX8_isShut_0 rfl rfl ?_
    refine z_gR zf8_70.g dX8_isShut_1 hn0 hk0 hr11 ?_
    refine z_gI zf8_205.g dX8_isShut_4 hnru hkru ?_
    rw [x2]
    refine z_if_ne 12 dX8_isShut_7 (by decide) (fun c_1 => absurd c_1 (fun q => q rfl)) (fun _ => ?_)
    refine z_iconst (v := 0) dX8_isShut_10 (by decide) ?_
    refine z_zret dX8_isShut_11 rfl (by decide) ?_
    exact ⟨rfl, J, rfl, kFt.rf ru J⟩
  · have hnz : ¬ nI ts.length = 0 := fun q => hz ((zeq (a := ts.length) (b := 0) (by omega) (by omega)).mp q)
    have htd : ∀ (M : Nat → Nat → Int32) (k : Nat) (v : Int32) (a : Nat), 28 ≤ a → zu M 7 k v a = M a := fun M k v a ha => zu_ne _ _ _ (by omega)
    have hc2 : ∀ (M : Nat → Nat → Int32), M (pa j + 2) = J (pa j + 2) → mleast (M (pa j + 2)) 24 = mleast (fun k => I 18 (24 * j + k)) 24 ∧ msum (M (pa j + 2)) 24 = msum (fun k => I 18 (24 * j + k)) 24 := fun M hM => by rw [hM]; exact ⟨mleast_cong 24 n3, msum_cong 24 n3⟩
    refine z_aload_n (i := 0) dX8_isShut_0 rfl rfl ?_
    refine z_gR zf8_70.g dX8_isShut_1 hn0 hk0 hr11 ?_
    refine z_gI zf8_205.g dX8_isShut_4 hnru hkru ?_
    rw [x2]
    refine z_if_ne 12 dX8_isShut_7 (by decide) (fun _ => ?_) (fun c_1 => absurd c_1 hnz)
    refine z_aload_n (i := 0) dX8_isShut_12 rfl rfl ?_
    refine z_gR zf8_11.g dX8_isShut_13 hn0 hk0 hr0 ?_
    refine z_iload_n (i := 1) dX8_isShut_16 rfl rfl ?_
    refine z_aaldP dX8_isShut_17 hn1 hk1 (zvin (by omega) (by omega)) (by rw [zcl (by omega)]; exact hpr) ?_
    refine z_astore (i := 4) dX8_isShut_18 (by decide) rfl ?_
    refine z_aload_n (i := 0) dX8_isShut_20 rfl rfl ?_
    refine z_gR zf8_36.g dX8_isShut_21 hn0 hk0 hr6 ?_
    refine z_iconst (v := 2) dX8_isShut_24 (by decide) ?_
    refine z_aload (i := 4) dX8_isShut_25 rfl ?_
    refine z_gR zf8_143 dX8_isShut_27 hpa hpk hpn ?_
    refine z_callV (st := [_, _]) (mc2 := 0) (ms2 := 0) zi8_186 zv_yX7_least (c7_least n K J L R _ _ htn0) dX8_isShut_30 htna (congrArg Prod.fst htnk) rfl rfl rfl (by decide) (by decide) (Nat.le_of_ble_eq_true rfl) (by decide) (by decide) (fun r h2 hq => ?_)
    obtain ⟨rfl, rfl⟩ := hq
    rw [(hc2 J rfl).1]
    refine z_iast dX8_isShut_33 hn7 hk7 (zvin (n := 2) (by decide) (by decide)) ?_
    rw [show (2 : Int32).toNatClampNeg = 2 from rfl]
    refine z_aload_n (i := 0) dX8_isShut_34 rfl rfl ?_
    refine z_gR zf8_36.g dX8_isShut_35 hn0 hk0 hr6 ?_
    refine z_iconst (v := 3) dX8_isShut_38 (by decide) ?_
    refine z_aload (i := 4) dX8_isShut_39 rfl ?_
    refine z_gR zf8_143 dX8_isShut_41 hpa hpk hpn ?_
    refine z_callV (st := [_, _]) (mc2 := 0) (ms2 := 0) zi8_190 zv_yX7_mean (c7_mean n K _ L R _ _ htn0) dX8_isShut_44 htna (congrArg Prod.fst htnk) rfl rfl rfl (by decide) (by decide) (Nat.le_of_ble_eq_true rfl) (by decide) (by decide) (fun r h2 hq => ?_)
    obtain ⟨rfl, rfl⟩ := hq
    rw [(hc2 _ (htd _ _ _ _ (by omega))).2]
    refine z_iast dX8_isShut_47 hn7 hk7 (zvin (n := 3) (by decide) (by decide)) ?_
    rw [show (3 : Int32).toNatClampNeg = 3 from rfl]
    refine z_aload_n (i := 0) dX8_isShut_48 rfl rfl ?_
    refine z_gR zf8_36.g dX8_isShut_49 hn0 hk0 hr6 ?_
    refine z_iconst (v := 4) dX8_isShut_52 (by decide) ?_
    refine z_aload (i := 4) dX8_isShut_53 rfl ?_
    refine z_gI zf8_244.g dX8_isShut_55 hpa hpk ?_
    rw [htd _ _ _ _ (by omega), htd _ _ _ _ (by omega), m3]
    refine z_iast dX8_isShut_58 hn7 hk7 (zvin (n := 4) (by decide) (by decide)) ?_
    rw [show (4 : Int32).toNatClampNeg = 4 from rfl]
    refine z_aload_n (i := 0) dX8_isShut_59 rfl rfl ?_
    refine z_gR zf8_36.g dX8_isShut_60 hn0 hk0 hr6 ?_
    refine z_bipush (v := 6) dX8_isShut_63 (by decide) ?_
    refine z_iload_n (i := 2) dX8_isShut_65 rfl rfl ?_
    refine z_iast dX8_isShut_66 hn7 hk7 (zvin (n := 6) (by decide) (by decide)) ?_
    rw [show (6 : Int32).toNatClampNeg = 6 from rfl]
    refine z_aload_n (i := 0) dX8_isShut_67 rfl rfl ?_
    refine z_gR zf8_36.g dX8_isShut_68 hn0 hk0 hr6 ?_
    refine z_bipush (v := 7) dX8_isShut_71 (by decide) ?_
    refine z_iload_n (i := 3) dX8_isShut_73 rfl rfl ?_
    refine z_iast dX8_isShut_74 hn7 hk7 (zvin (n := 7) (by decide) (by decide)) ?_
    rw [show (7 : Int32).toNatClampNeg = 7 from rfl]
    refine z_aload_n (i := 0) dX8_isShut_75 rfl rfl ?_
    refine z_gR zf8_70.g dX8_isShut_76 hn0 hk0 hr11 ?_
    refine z_iload_n (i := 1) dX8_isShut_79 rfl rfl ?_
    refine z_aload_n (i := 0) dX8_isShut_80 rfl rfl ?_
    refine z_gR zf8_36.g dX8_isShut_81 hn0 hk0 hr6 ?_
    generalize hM : zu (zu (zu (zu (zu J 7 2 (mleast (fun k => I 18 (24 * j + k)) 24)) 7 3 (msum (fun k => I 18 (24 * j + k)) 24 / 24)) 7 4 (I 23 j)) 7 6 (nI h)) 7 7 age = M
    have hMa : ∀ a, a ≠ 7 → M a = J a := fun a ha => by rw [← hM, zu_ne _ _ _ ha, zu_ne _ _ _ ha, zu_ne _ _ _ ha, zu_ne _ _ _ ha, zu_ne _ _ _ ha]
    have hM7 : ∀ q, q < 8 → M 7 q = kkn I D h j warm wet age q := by
      intro q hq
      rw [← hM]
      unfold kkn
      rcases (show q = 0 ∨ q = 1 ∨ q = 2 ∨ q = 3 ∨ q = 4 ∨ q = 5 ∨ q = 6 ∨ q = 7 by omega) with rfl | rfl | rfl | rfl | rfl | rfl | rfl | rfl <;> simp [zu_apply, t0, t1, t5]
    have hx2 := kTx_cong (hMa (ru + 1) (by omega)) (hMa (ru + 2) (by omega)) (hMa (ru + 3) (by omega)) ts 0 0 x1
    have hsh := c4_shut n K M L R ru (ru + 1) (ru + 2) (ru + 3) (ru + 4) 7 (kkn I D h j warm wet age) (nI j) ts hUr hn7 hk7 (by omega) (by omega) x3 hx2 (by rw [hMa ru (by omega)]; exact x2) hM7
    refine z_callV (st := []) (mc2 := 0) (ms2 := 0) zi8_262 zv_yX4_shut hsh dX8_isShut_84 hnru (congrArg Prod.fst hkru) rfl rfl rfl (by decide) (by decide) (Nat.le_of_ble_eq_true rfl) (by decide) (by decide) (fun r h2 hq => ?_)
    obtain ⟨rfl, M2, rfl, hW2⟩ := hq
    refine z_zret dX8_isShut_87 rfl (zb_or _) ?_
    refine ⟨rfl, M2, rfl, ⟨fun a x y z => by rw [hW2.1 a z y, hMa a x], fun q hq => by rw [hW2.2 q hq, hMa ru (by omega)], ?_, ?_, ?_⟩⟩
    · rw [hW2.1 7 (by omega) (by omega), hM7 0 (by decide), t0]; rfl
    · rw [hW2.1 7 (by omega) (by omega), hM7 1 (by decide), t1]; rfl
    · rw [hW2.1 7 (by omega) (by omega), hM7 5 (by decide), t5]; rfl
