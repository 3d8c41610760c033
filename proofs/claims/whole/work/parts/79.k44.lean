abbrev kQsa (n : Nat) (K : Nat → Nat × Nat) (J : Nat → Nat → Int32) (L : Nat → Nat → Int64) (R : Nat → Nat → Option Nat) (P G D C W : Nat) (pa ga : Nat → Nat) (I' : Nat → Nat → Int32) : Option Value → ZH → Prop := fun r h => r = none ∧ ∃ M, h = (n, K, M, L, R) ∧ kFh J M ∧ kD M I' P G D pa ga ∧ kOk I' P G C ∧ kBw M I' G W
abbrev x8_sendAway : ZX := (RX8, cX8_sendAway, 4, none, "sendAway", 2, 80, false)
set_option maxHeartbeats 4000000 in
theorem c8_sendAway (n : Nat) (K : Nat → Nat × Nat) (J : Nat → Nat → Int32) (L : Nat → Nat → Int64) (R : Nat → Nat → Option Nat) (P G : Nat) (pa ga : Nat → Nat) (ru sp : Nat) (hG : kG n K R P G pa ga ru sp) (I : Nat → Nat → Int32) (D C W g S0 a b : Nat) (hD : D ≤ 357) (hW : W ≤ 50) (hDW : D = 7 * W + D % 7) (hKD : kD J I P G D pa ga) (hok : kOk I P G C) (hB : kBw J I G W) (hg : g < G) (h29 : I 29 g = nI W) (hst1 : I 31 g = 1) (hS0 : S0 < 168) (h32 : I 32 g = nI (168 * W + S0)) (hday : S0 / 24 = D % 7) (ha : a < 16) (hb : b < 16) (hab : a ≠ b) (h25 : I 25 g = nI a) (h26 : I 26 g = nI b) : Zm yX8_sendAway cX8_sendAway 4 none 2 80 0 0 [.ref 0, .ref (ga g), .int (nI (D % 7))] (n, K, J, L, R) (kQsa n K J L R P G D C W pa ga (mmv (mlost (mlost I a) b) P G D g)) := by
  refine Zm_of (lg := false) (by decide) (fun _ => by simp [Value.category]) (fun _ => Nat.le_of_ble_eq_true rfl) ?_
  show Zf x8_sendAway 0 0 0 (zargs [.ref 0, .ref (ga g), .int (nI (D % 7))]) [] (n, K, J, L, R) _
  generalize hQ0 : (kQsa n K J L R P G D C W pa ga (mmv (mlost (mlost I a) b) P G D g) : Option Value → ZH → Prop) = Q0
  obtain ⟨⟨hn28, hP6, hG60⟩, ⟨hk0, hk1, hk2, hk3, hk4, hk5, hk6, hk7⟩, ⟨hr0, hr1, hr2, hr3, hr4, hr5, hr6⟩, ⟨hr7, hr8, hr9, hr10, hr11, hr12⟩, hB8, ⟨hT11, hR17, hT13⟩, ⟨hU18, hU23, hrs⟩, ⟨hgm, hgi⟩, ⟨hpm, hpi⟩⟩ := id hG
  have hn0 : 0 < n := by omega
  have hn1 : 1 < n := by omega
  have hn2 : 2 < n := by omega
  have hn3 : 3 < n := by omega
  have hn4 : 4 < n := by omega
  have hn5 : 5 < n := by omega
  have hn6 : 6 < n := by omega
  have hn7 : 7 < n := by omega
  have hn8 : 8 < n := by omega
  have hk8 : K 8 = (5, 0) := hB8.2.2.2.1
  have hn11 : 11 < n := by omega
  have hk11 : K 11 = (10, 0) := hT11.2.2.1
  obtain ⟨-, hg28, hga, hgk⟩ := hgm g hg
  obtain ⟨⟨h13, h14, h15⟩, hdg, hdp, hdt, hdc⟩ := id hKD
  have mg := mnot1 hst1
  obtain ⟨-, ⟨ag, hag, h27⟩, -, -, -⟩ := hok.1.1 g hg
  obtain ⟨⟨a1, a2, a3, a4, a5⟩, ⟨b1, b2, b3, b4, b5⟩⟩ := hdg g hg
  have hc1 : J (ga g) 2 = kcb I g := a3
  have h8 := kslot_there (hdg g hg) hW h29 hS0 h32
  have D2 := kD_lost hG (kD_lost hG hKD ha) hb
  generalize hI1 : mlost (mlost I a) b = I1 at hQ0 D2
  have eI : ∀ q, q ≠ 34 → I1 q = I q := fun q hq => by rw [← hI1]; unfold mlost; rw [zu_ne _ _ _ hq, zu_ne _ _ _ hq]
  have ok1 : kOk I1 P G C := kOk_I hok (fun q x y => eI q (by omega))
  have k29 : I1 29 g = nI W := by rw [eI 29 (by decide)]; exact h29
  have k31 : I1 31 g = 1 := by rw [eI 31 (by decide)]; exact hst1
  have k32 : I1 32 g = nI (168 * W + S0) := by rw [eI 32 (by decide)]; exact h32
  have kcb1 : kcb I1 g = kcb I g := by unfold kcb; rw [eI 25 (by decide), eI 26 (by decide)]
  have mg1 := mnot1 k31
  refine z_aload_n (i := 0) dX8_sendAway_0 rfl rfl ?_
  refine z_gR zf8_28.g dX8_sendAway_1 hn0 hk0 hr4 ?_
  refine z_aload_n (i := 1) dX8_sendAway_4 rfl rfl ?_
  refine z_gI zf8_266 dX8_sendAway_5 hga hgk ?_
  rw [a1, h25]
  refine z_dup2 dX8_sendAway_8 rfl rfl ?_
  refine z_iald dX8_sendAway_9 hn5 hk5 (zvin (by omega) (by omega)) ?_
  rw [zcl (by omega)]
  refine z_iconst (v := 1) dX8_sendAway_10 (by decide) ?_
  refine z_iadd dX8_sendAway_11 ?_
  refine z_iast dX8_sendAway_12 hn5 hk5 (zvin (by omega) (by omega)) ?_
  rw [zcl (by omega)]
  refine z_aload_n (i := 0) dX8_sendAway_13 rfl rfl ?_
  refine z_gR zf8_28.g dX8_sendAway_14 hn0 hk0 hr4 ?_
  refine z_aload_n (i := 1) dX8_sendAway_17 rfl rfl ?_
  refine z_gI zf8_269 dX8_sendAway_18 hga hgk ?_
  rw [zu_ne _ _ _ (show ga g ≠ 5 by omega), a2, h26]
  refine z_dup2 dX8_sendAway_21 rfl rfl ?_
  refine z_iald dX8_sendAway_22 hn5 hk5 (zvin (by omega) (by omega)) ?_
  rw [zcl (by omega)]
  refine z_iconst (v := 1) dX8_sendAway_23 (by decide) ?_
  refine z_iadd dX8_sendAway_24 ?_
  refine z_iast dX8_sendAway_25 hn5 hk5 (zvin (by omega) (by omega)) ?_
  rw [zcl (by omega)]
  have B2 : kBw (zu (zu J 5 a (J 5 a + 1)) 5 b (zu J 5 a (J 5 a + 1) 5 b + 1)) I1 G W := kBw_I (kBw_cong hB (by rw [zu_ne _ _ _ (by decide), zu_ne _ _ _ (by decide)]) (by rw [zu_ne _ _ _ (by decide), zu_ne _ _ _ (by decide)])) (fun q hq => eI q (by omega)) (fun k _ => by unfold mth; rw [eI 31 (by decide)])
  have F2 : kFh J (zu (zu J 5 a (J 5 a + 1)) 5 b (zu J 5 a (J 5 a + 1) 5 b + 1)) := (kFh_u (by omega)).tr (kFh_u (by omega))
  have eJ : ∀ q, q ≠ 5 → zu (zu J 5 a (J 5 a + 1)) 5 b (zu J 5 a (J 5 a + 1) 5 b + 1) q = J q := fun q hq => by rw [zu_ne _ _ _ hq, zu_ne _ _ _ hq]
  generalize zu (zu J 5 a (J 5 a + 1)) 5 b (zu J 5 a (J 5 a + 1) 5 b + 1) = J2 at D2 B2 F2 eJ ⊢
  have eg : J2 (ga g) = J (ga g) := eJ _ (by omega)
  have hres : kRes (mfind (kfP J2 9 10 (kcb I g) (J2 3 ag) 268435455 (-1)) (24 * (D % 7 + 1)) (168 - 24 * (D % 7 + 1))) (mfs I1 P G g W (D + 1) false (-1)) W (mfP I1 P G g false (-1)) := by
    refine kRes_of (F := D % 7 + 1) ?_ (by omega) (fun S h1 h2 => ?_)
    · rw [if_pos (by omega)]; omega
    · have h0 := kfP_eq (ws := 268435455) (but := -1) (but2 := -1) (wished := false) (ag := ag) hG60 B2 D2.2.2.2.1 ok1.1.1 hg hW h2 (fun q => ?_) hag (by rw [eI 27 (by decide)]; exact h27) (by rw [zbt_all _ (by omega)]; rfl) ⟨fun q => absurd q (nIne1 (by omega)), fun q => absurd q (nIne1 (by omega))⟩
      · rw [kcb1] at h0
        exact h0
      · obtain ⟨-, x, hx, e⟩ := q
        rw [k32, zeq (by omega) (by omega)] at e
        omega
  refine z_aload_n (i := 0) dX8_sendAway_26 rfl rfl ?_
  refine z_gR zf8_42.g dX8_sendAway_27 hn0 hk0 hr7 ?_
  refine z_aload_n (i := 1) dX8_sendAway_30 rfl rfl ?_
  refine z_gI zf8_214 dX8_sendAway_31 hga hgk ?_
  rw [eg, hc1]
  refine z_aload_n (i := 0) dX8_sendAway_34 rfl rfl ?_
  refine z_gR zf8_21.g dX8_sendAway_35 hn0 hk0 hr2 ?_
  refine z_aload_n (i := 1) dX8_sendAway_38 rfl rfl ?_
  refine z_gI zf8_227 dX8_sendAway_39 hga hgk ?_
  rw [eg, a4, h27]
  refine z_iald dX8_sendAway_42 hn3 hk3 (zvin (by omega) (by omega)) ?_
  rw [zcl (by omega)]
  refine z_ldc (v := 268435455) dX8_sendAway_43 (zTB_of (by decide +kernel) rfl) ?_
  refine z_iload_n (i := 2) dX8_sendAway_45 rfl rfl ?_
  refine z_iconst (v := 1) dX8_sendAway_46 (by decide) ?_
  refine z_iadd dX8_sendAway_47 ?_
  refine z_top (y := .int (nI (D % 7 + 1))) (by rw [zl1, nI_add]) ?_
  refine z_iconst (v := (-1)) dX8_sendAway_48 (by decide) ?_
  refine z_callV (st := []) (mc2 := 0) (ms2 := 0) zi8_233 zv_yX0_firstSlot (c0_firstSlot n K J2 L R 8 9 10 (D % 7 + 1) (kcb I g) (J2 3 ag) 268435455 (nI (D % 7 + 1)) (-1) hB8 (by omega) (if_pos (show (0 : Int32) < nI (D % 7 + 1) from (zlt (a := 0) (by omega) (by omega)).mpr (by omega))) (Or.inl rfl)) dX8_sendAway_49 hn8 (congrArg Prod.fst hk8) rfl rfl rfl (by decide) (by decide) (Nat.le_of_ble_eq_true rfl) (by decide) (by decide) (fun r h2 hq => ?_)
  obtain ⟨rfl, rfl⟩ := hq
  have hr := hres
  generalize mfind (kfP J2 9 10 (kcb I g) (J2 3 ag) 268435455 (-1)) (24 * (D % 7 + 1)) (168 - 24 * (D % 7 + 1)) = v at hr ⊢
  refine z_istore_n (i := 3) dX8_sendAway_52 rfl (by decide) rfl ?_
  refine z_aload_n (i := 0) dX8_sendAway_53 rfl rfl ?_
  refine z_gR zf8_42.g dX8_sendAway_54 hn0 hk0 hr7 ?_
  refine z_aload_n (i := 1) dX8_sendAway_57 rfl rfl ?_
  refine z_gI zf8_172.g dX8_sendAway_58 hga hgk ?_
  rw [eg, h8]
  refine z_aload_n (i := 1) dX8_sendAway_61 rfl rfl ?_
  refine z_gI zf8_214 dX8_sendAway_62 hga hgk ?_
  rw [eg, hc1]
  refine z_callV (st := []) (mc2 := 0) (ms2 := 0) zi8_241 zv_yX0_drop (c0_drop n K J2 L R 8 9 10 S0 (kcb I g) hB8 hS0) dX8_sendAway_65 hn8 (congrArg Prod.fst hk8) rfl rfl rfl (by decide) (by decide) (Nat.le_of_ble_eq_true rfl) (by decide) (by decide) (fun r h2 hq => ?_)
  obtain ⟨rfl, rfl⟩ := hq
  try simp only [Option.toList, List.nil_append]
  have N3 := kF9_drop J2 S0 (kcb I g)
  have B3 := kBw_off (v := 3) B2 (Or.inr rfl) ok1.1 hg mg1 k32 hW hS0
  rw [kcb1] at B3
  have D3 := kD_9 hG D2 N3
  have F3 := F2.tr N3.h
  have eg3 : kdrop J2 9 10 S0 (kcb I g) (ga g) = J (ga g) := by rw [N3 _ (by omega) (by omega), eg]
  generalize kdrop J2 9 10 S0 (kcb I g) = J3 at N3 B3 D3 F3 eg3 ⊢
  refine z_aload_n (i := 1) dX8_sendAway_68 rfl rfl ?_
  refine z_iload_n (i := 3) dX8_sendAway_69 rfl rfl ?_
  refine z_putI zf8_172 dX8_sendAway_70 (fun h => by cases h) hga hgk ?_
  refine z_iload_n (i := 3) dX8_sendAway_73 rfl rfl ?_
  refine z_iconst (v := (-1)) dX8_sendAway_74 (by decide) ?_
  refine z_icmp_ne 112 dX8_sendAway_75 (by decide) (fun c_1 => ?_) (fun c_1 => ?_)
  · skip
    obtain ⟨S1, hS1, e1, m1, q1⟩ := kRes_y hr c_1
    subst e1
    have hmm : mmv I1 P G D g = zu (mlays I1 g (nI (168 * W + S1))) 33 g (I1 33 g + 1) := by
      unfold mmv
      rw [mWk_of k29 hW, m1, if_neg (nIneg (show 168 * W + S1 ≤ 1000000 by omega))]
    refine z_aload_n (i := 0) dX8_sendAway_112 rfl rfl ?_
    refine z_gR zf8_42.g dX8_sendAway_113 hn0 hk0 hr7 ?_
    refine z_iload_n (i := 3) dX8_sendAway_116 rfl rfl ?_
    refine z_aload_n (i := 1) dX8_sendAway_117 rfl rfl ?_
    refine z_gI zf8_214 dX8_sendAway_118 hga hgk ?_
    rw [zu_apply, if_neg (by omega), eg3, hc1]
    refine z_callV (st := []) (mc2 := 0) (ms2 := 0) zi8_217 zv_yX0_put (c0_put n K _ L R 8 9 10 S1 (kcb I g) hB8 hS1) dX8_sendAway_121 hn8 (congrArg Prod.fst hk8) rfl rfl rfl (by decide) (by decide) (Nat.le_of_ble_eq_true rfl) (by decide) (by decide) (fun r h2 hq => ?_)
    obtain ⟨rfl, rfl⟩ := hq
    try simp only [Option.toList, List.nil_append]
    refine z_aload_n (i := 1) dX8_sendAway_124 rfl rfl ?_
    refine z_dup dX8_sendAway_125 rfl ?_
    refine z_gI zf8_175.g dX8_sendAway_126 hga hgk ?_
    refine z_iconst (v := 1) dX8_sendAway_129 (by decide) ?_
    refine z_iadd dX8_sendAway_130 ?_
    refine z_putI zf8_175 dX8_sendAway_131 (fun h => by cases h) hga hgk ?_
    refine z_vret dX8_sendAway_134 rfl ?_
    subst hQ0
    unfold kQsa
    rw [hmm]
    have D4 := kD_lay hG D3 hg hW k29 hS1 (by rw [k31]; decide) (by rw [k31]; decide)
    rw [zu_set (show zu J3 (ga g) 8 (nI S1) (ga g) 7 = 1 by rw [zu_apply, if_neg (by omega), eg3, b3]; exact hst1)] at D4
    have N5 := kF9_put (zu J3 (ga g) 8 (nI S1)) S1 (kcb I g)
    have D5 := kD_mv hG (kD_9 hG D4 N5) hg
    rw [mF2_lays I1 g _ 33 (by decide) (by decide)] at D5
    have B4 : kBw (zu J3 (ga g) 8 (nI S1)) (zu (zu I1 31 g 3) 32 g (-1)) G W := kBw_cong B3 (zu_ne _ _ _ (by omega)) (zu_ne _ _ _ (by omega))
    have B5 := kBw_lay B4 ((kOk_off ok1 (Or.inr rfl)).1.1 g hg) hg (by rw [mth_off I1 g 3 (Or.inr rfl), if_pos rfl]) hW hS1
    rw [mlays_off, kcb_F2 (mF2_off I1 g 3 (-1)), kcb1] at B5
    refine ⟨rfl, _, rfl, F3.tr ((kFh_u (Or.inl hg28)).tr (N5.h.tr (kFh_u (Or.inl hg28)))), D5, kOk_I (kOk_lay ok1 hG60 hg hW k29 hS1 q1) (fun q x y => zu_ne _ _ _ (by omega)), ?_⟩
    exact kBw_I (kBw_cong B5 (zu_ne _ _ _ (by omega)) (zu_ne _ _ _ (by omega))) (fun q hq => zu_ne _ _ _ (by omega)) (fun k _ => by unfold mth; rw [zu_ne _ _ _ (by decide)])
  · skip
    have hv : v = -1 := c_1
    subst hv
    have m1 := kRes_n hr rfl
    have hmm : mmv I1 P G D g = zu (zu I1 31 g 3) 32 g (-1) := by
      unfold mmv
      rw [mWk_of k29 hW, m1, if_pos (show (-1 : Int32) < 0 by decide)]
    have e6 : ∀ (M : Nat → Nat → Int32), zu (zu J3 (ga g) 8 (-1)) (ga g) 7 3 6 = J3 6 := fun _ => by rw [zu_ne _ _ _ (by omega), zu_ne _ _ _ (by omega)]
    have e78 : ∀ j, j ≠ 7 → j ≠ 8 → zu (zu J3 (ga g) 8 (-1)) (ga g) 7 3 (ga g) j = J (ga g) j := fun j x y => by rw [zu_apply, if_neg (by omega), zu_apply, if_neg (by omega), eg3]
    refine z_aload_n (i := 1) dX8_sendAway_78 rfl rfl ?_
    refine z_iconst (v := 3) dX8_sendAway_79 (by decide) ?_
    refine z_putI zf8_107 dX8_sendAway_80 (fun h => by cases h) hga hgk ?_
    refine z_aload_n (i := 0) dX8_sendAway_83 rfl rfl ?_
    refine z_gR zf8_31.g dX8_sendAway_84 hn0 hk0 hr5 ?_
    refine z_aload_n (i := 1) dX8_sendAway_87 rfl rfl ?_
    refine z_gI zf8_266 dX8_sendAway_88 hga hgk ?_
    rw [e78 0 (by decide) (by decide), a1, h25]
    refine z_dup2 dX8_sendAway_91 rfl rfl ?_
    refine z_iald dX8_sendAway_92 hn6 hk6 (zvin (by omega) (by omega)) ?_
    rw [zcl (by omega), e6 J3]
    refine z_iconst (v := 1) dX8_sendAway_93 (by decide) ?_
    refine z_iadd dX8_sendAway_94 ?_
    refine z_iast dX8_sendAway_95 hn6 hk6 (zvin (by omega) (by omega)) ?_
    rw [zcl (by omega)]
    refine z_aload_n (i := 0) dX8_sendAway_96 rfl rfl ?_
    refine z_gR zf8_31.g dX8_sendAway_97 hn0 hk0 hr5 ?_
    refine z_aload_n (i := 1) dX8_sendAway_100 rfl rfl ?_
    refine z_gI zf8_269 dX8_sendAway_101 hga hgk ?_
    rw [zu_ne _ _ _ (show ga g ≠ 6 by omega), e78 1 (by decide) (by decide), a2, h26]
    refine z_dup2 dX8_sendAway_104 rfl rfl ?_
    refine z_iald dX8_sendAway_105 hn6 hk6 (zvin (by omega) (by omega)) ?_
    rw [zcl (by omega)]
    refine z_iconst (v := 1) dX8_sendAway_106 (by decide) ?_
    refine z_iadd dX8_sendAway_107 ?_
    refine z_iast dX8_sendAway_108 hn6 hk6 (zvin (by omega) (by omega)) ?_
    rw [zcl (by omega)]
    refine z_goto 134 dX8_sendAway_109 (by decide) ?_
    refine z_vret dX8_sendAway_134 rfl ?_
    subst hQ0
    unfold kQsa
    rw [hmm]
    have D5 := kD_off (x := zu (zu (zu J3 (ga g) 8 (-1)) (ga g) 7 3) 6 a (J3 6 a + 1) 6 b) hG D3 hg ha hb hab (by rw [eI 25 (by decide)]; exact h25) (by rw [eI 26 (by decide)]; exact h26) k31 (by rw [zu_apply, if_neg (fun q => hab q.2.symm), e6 J3])
    exact ⟨rfl, _, rfl, F3.tr ((kFh_u (Or.inl hg28)).tr ((kFh_u (Or.inl hg28)).tr ((kFh_u (by omega)).tr (kFh_u (by omega))))), D5, kOk_off ok1 (Or.inr rfl), kBw_cong B3 (by rw [zu_ne _ _ _ (by omega), zu_ne _ _ _ (by omega), zu_ne _ _ _ (by omega), zu_ne _ _ _ (by omega)]) (by rw [zu_ne _ _ _ (by omega), zu_ne _ _ _ (by omega), zu_ne _ _ _ (by omega), zu_ne _ _ _ (by omega)])⟩
