theorem fltp_pos {tp : Nat → Nat} {k A : Nat} (hk : 1 ≤ k) (hk2 : k ≤ 15) (h : tp A ≤ 600) : ¬ fltp tp k A ≤ 0 := by
  unfold fltp
  rw [show (0 : Int32) = nI 0 from rfl, zle (by omega) (by omega)]
  omega
theorem wr_flt {I : Nat → Nat → Int32} {L : Nat → Nat → Int64} {n : Nat} {tk tp tv : Nat → Nat} (hT : mTok I L n tk tp tv) {A : Nat} (hA : A ≤ n) {k : Nat} (h7 : I 0 7 = nI A) (h8 : I 0 8 = 0) : (if I 0 8 = 0 then zu I 0 8 (nI k + 16 * I 3 (I 0 7).toNatClampNeg) else I) = zu I 0 8 (fltp tp k A) := by
  have := hT.1
  rw [if_pos h8, h7, zcl (by omega), (hT.2.2.1 A hA).2.1, zl16, pk_mul, nI_add]
  rfl
abbrev x9_part : ZX := (RX9, cX9_part, 2, (some .boolean), "part", 2, 80, false)
set_option maxHeartbeats 4000000 in
theorem l9_p46 {I : Nat → Nat → Int32} {L : Nat → Nat → Int64} {Q : Option Value → ZH → Prop} {n b : Nat} {tk tp tv : Nat → Nat} (hb : b < 2) {A : Nat} {out : List (Nat × Int32)} {d : Nat} {sW gW aW : Nat → Nat} (hT : mTok I L n tk tp tv) (hA : A ≤ n) (hd : d ≤ 5) (hz : psz (A, (0 : Int32), out, d, sW, gW, aW) ≤ 640) (hR : mRep I b (A, (0 : Int32), out, d, sW, gW, aW)) {pw : Int32} (hp1 : ¬ 0 ≤ pw → ¬ (7 ≤ tk A ∧ tk A ≤ 14)) (hp2 : 0 ≤ pw → (7 ≤ tk A ∧ tk A ≤ 14) ∧ pw = nI (tk A - 7)) (hok : tk A = 2 ∨ tk A = 40 ∨ (7 ≤ tk A ∧ tk A ≤ 14)) (hQ : Q = mQr I L b (pPart tk tp tv (A, (0 : Int32), out, d, sW, gW, aW))) (ls : Nat → Option Value) (hl0 : ls 0 = some (.ref 0)) (hl1 : ls 1 = some (.int pw)) : Zf x9_part 0 0 46 ls [] (mh I L) Q := by
  have hn := hT.1
  have htp := (hT.2.2.1 A hA).2.2
  obtain ⟨h7, h8, h16, h17, hc, h18, hw⟩ := id hR
  dsimp only at h7 h8 h16 h17 hc h18 hw
  have hz2 := hz
  unfold psz at hz2
  dsimp only at hz2
  refine z_aload_n (i := 0) dX9_part_46 rfl hl0 ?_
  refine z_gI zf9_209.g dX9_part_47 (by decide) rfl ?_
  rw [h18]
  refine z_iconst (v := 5) dX9_part_50 (by decide) ?_
  refine z_icmp_ne 59 dX9_part_51 (by decide) (fun c_1 => ?_) (fun c_1 => ?_)
  · skip
    have d5 := c_1
    rw [zl5, zeq (by omega) (by omega)] at d5
    refine z_aload_n (i := 0) dX9_part_59 rfl hl0 ?_
    refine z_gI zf9_173.g dX9_part_60 (by decide) rfl ?_
    rw [h8]
    refine z_if_le 68 dX9_part_63 (by decide) (fun _ => ?_) (fun c_2 => absurd (by decide) c_2)
    refine z_aload_n (i := 0) dX9_part_68 rfl hl0 ?_
    refine z_bipush (v := 40) dX9_part_69 (by decide) ?_
    refine z_callV (st := []) (mc2 := 0) (ms2 := 0) zi9_233 zv_yX9_hasSign (c9_hasSign _ _ _ A (by omega) h7) dX9_part_71 (show (0 : Nat) < 35 by decide) rfl rfl rfl rfl (by decide) (by decide) (Nat.le_of_ble_eq_true rfl) (by decide) (by decide) (fun r h2 hq => ?_)
    obtain ⟨rfl, rfl⟩ := hq
    rw [show msg I L A 40 = decide (tk A = 40) from mTok_msg hT hA rfl h8]
    refine z_if_eq 93 dX9_part_74 (by decide) (fun c_3 => ?_) (fun c_3 => ?_)
    · skip
      have e40 : ¬ tk A = 40 := (of_decide_eq_false ((zb_0 _).mp c_3))
      rw [show mnx I A (decide (tk A = 40)) = I by unfold mnx; rw [decide_eq_false e40]; rfl]
      refine z_aload_n (i := 0) dX9_part_93 rfl hl0 ?_
      refine z_iload_n (i := 1) dX9_part_94 rfl hl1 ?_
      refine z_if_ge 102 dX9_part_95 (by decide) (fun c_4 => ?_) (fun c_4 => ?_)
      · skip
        refine z_iconst (v := 2) dX9_part_102 (by decide) ?_
        refine z_iload_n (i := 1) dX9_part_103 rfl hl1 ?_
        refine z_if_ge 120 dX9_part_104 (by decide) (fun _ => ?_) (fun c_5 => absurd (by assumption) c_5)
        refine z_iload_n (i := 1) dX9_part_120 rfl hl1 ?_
        refine z_callV (st := []) (mc2 := 0) (ms2 := 0) zi9_222 zv_yX9_emit (c9_emit I L _ _ b out.length hb (by omega) h16 h17) dX9_part_121 (show (0 : Nat) < 35 by decide) rfl rfl rfl rfl (by decide) (by decide) (Nat.le_of_ble_eq_true rfl) (by decide) (by decide) (fun r h2 hq => ?_)
        obtain ⟨rfl, rfl⟩ := hq
        try simp only [Option.toList, List.nil_append]
        refine z_aload_n (i := 0) dX9_part_124 rfl hl0 ?_
        refine z_dup dX9_part_125 rfl ?_
        refine z_gI zf9_170.g dX9_part_126 (by decide) rfl ?_
        rw [show mem I b out.length _ _ 0 7 = nI A from h7]
        refine z_iconst (v := 1) dX9_part_129 (by decide) ?_
        refine z_iadd dX9_part_130 ?_
        refine z_top (y := .int (nI (A + 1))) (by rw [zl1, nI_add]) ?_
        refine z_putI zf9_170 dX9_part_131 (fun h => by cases h) (by decide) rfl ?_
        refine z_iconst (v := 0) dX9_part_134 (by decide) ?_
        refine z_zret dX9_part_135 rfl (by decide) ?_
        have hp := hp2 (by assumption)
        rw [hQ, pPart_e, if_pos hok, if_neg d5, if_neg e40, if_neg (by omega), ← hp.2]
        exact ⟨rfl, _, rfl, mRep_at (mRep_emit hR 2 pw) (A + 1), (mFr_emit (by omega)).tr mFr_at⟩
      · skip
        refine z_iconst (v := 1) dX9_part_98 (by decide) ?_
        refine z_goto 103 dX9_part_99 (by decide) ?_
        refine z_iload_n (i := 1) dX9_part_103 rfl hl1 ?_
        refine z_if_ge 120 dX9_part_104 (by decide) (fun c_6 => absurd c_6 (by assumption)) (fun _ => ?_)
        refine z_aload_n (i := 0) dX9_part_107 rfl hl0 ?_
        refine z_gR zf9_19.g dX9_part_108 (by decide) rfl rfl ?_
        refine z_aload_n (i := 0) dX9_part_111 rfl hl0 ?_
        refine z_gI zf9_170.g dX9_part_112 (by decide) rfl ?_
        rw [h7]
        refine z_lald dX9_part_115 (by decide) rfl (zvin (by omega) (by omega)) ?_
        have e2 : tk A = 2 := by have := hp1 c_4; omega
        have ev := (hT.2.2.1 A hA).1
        rw [e2] at ev
        rw [zcl (by omega), (mtk_val ev).1]
        refine z_l2i dX9_part_116 rfl ?_
        refine z_goto 121 dX9_part_117 (by decide) ?_
        refine z_callV (st := []) (mc2 := 0) (ms2 := 0) zi9_222 zv_yX9_emit (c9_emit I L _ _ b out.length hb (by omega) h16 h17) dX9_part_121 (show (0 : Nat) < 35 by decide) rfl rfl rfl rfl (by decide) (by decide) (Nat.le_of_ble_eq_true rfl) (by decide) (by decide) (fun r h2 hq => ?_)
        obtain ⟨rfl, rfl⟩ := hq
        try simp only [Option.toList, List.nil_append]
        refine z_aload_n (i := 0) dX9_part_124 rfl hl0 ?_
        refine z_dup dX9_part_125 rfl ?_
        refine z_gI zf9_170.g dX9_part_126 (by decide) rfl ?_
        rw [show mem I b out.length _ _ 0 7 = nI A from h7]
        refine z_iconst (v := 1) dX9_part_129 (by decide) ?_
        refine z_iadd dX9_part_130 ?_
        refine z_top (y := .int (nI (A + 1))) (by rw [zl1, nI_add]) ?_
        refine z_putI zf9_170 dX9_part_131 (fun h => by cases h) (by decide) rfl ?_
        refine z_iconst (v := 0) dX9_part_134 (by decide) ?_
        refine z_zret dX9_part_135 rfl (by decide) ?_
        rw [hQ, pPart_e, if_pos hok, if_neg d5, if_neg e40, if_pos e2, lN_i]
        exact ⟨rfl, _, rfl, mRep_at (mRep_emit hR 1 (nI (tv A))) (A + 1), (mFr_emit (by omega)).tr mFr_at⟩
    · skip
      have e40 : tk A = 40 := (of_decide_eq_true ((zb_n _).mp c_3))
      rw [show mnx I A (decide (tk A = 40)) = zu I 0 7 (nI (A + 1)) by unfold mnx; rw [decide_eq_true e40]; rfl]
      refine z_aload_n (i := 0) dX9_part_77 rfl hl0 ?_
      refine z_dup dX9_part_78 rfl ?_
      refine z_gI zf9_209.g dX9_part_79 (by decide) rfl ?_
      rw [show zu I 0 7 (nI (A + 1)) 0 18 = nI d from h18]
      refine z_iconst (v := 1) dX9_part_82 (by decide) ?_
      refine z_iadd dX9_part_83 ?_
      refine z_top (y := .int (nI (d + 1))) (by rw [zl1, nI_add]) ?_
      refine z_putI zf9_209 dX9_part_84 (fun h => by cases h) (by decide) rfl ?_
      refine z_aload_n (i := 0) dX9_part_87 rfl hl0 ?_
      refine z_callV (st := []) (mc2 := 0) (ms2 := 0) zi9_212 zv_yX9_opens (c9_opens _ _ (d + 1) (by omega) rfl) dX9_part_88 (show (0 : Nat) < 35 by decide) rfl rfl rfl rfl (by decide) (by decide) (Nat.le_of_ble_eq_true rfl) (by decide) (by decide) (fun r h2 hq => ?_)
      obtain ⟨rfl, rfl⟩ := hq
      try simp only [Option.toList, List.nil_append]
      refine z_iconst (v := 1) dX9_part_91 (by decide) ?_
      refine z_zret dX9_part_92 rfl (by decide) ?_
      rw [hQ, pPart_e, if_pos hok, if_neg d5, if_pos e40]
      exact ⟨rfl, _, rfl, mRep_dn (mRep_at hR (A + 1)), mFr_at.tr (mFr_d.tr mFr_o)⟩
  · skip
    refine z_aload_n (i := 0) dX9_part_54 rfl hl0 ?_
    refine z_iconst (v := 5) dX9_part_55 (by decide) ?_
    refine z_callV (st := []) (mc2 := 0) (ms2 := 0) zi9_179 zv_yX9_wrong (c9_wrong I L 5 (by rw [h7]; exact zvin (by omega) (by omega))) dX9_part_56 (show (0 : Nat) < 35 by decide) rfl rfl rfl rfl (by decide) (by decide) (Nat.le_of_ble_eq_true rfl) (by decide) (by decide) (fun r h2 hq => ?_)
    obtain ⟨rfl, rfl⟩ := hq
    rw [show (if I 0 8 = 0 then zu I 0 8 (5 + 16 * I 3 (I 0 7).toNatClampNeg) else I) = zu I 0 8 (fltp tp 5 A) from wr_flt hT hA (k := 5) h7 h8]
    try simp only [Option.toList, List.nil_append]
    have d5 := c_1
    rw [zl5, zeq (by omega) (by omega)] at d5
    refine z_aload_n (i := 0) dX9_part_59 rfl hl0 ?_
    refine z_gI zf9_173.g dX9_part_60 (by decide) rfl ?_
    refine z_if_le 68 dX9_part_63 (by decide) (fun c_7 => absurd c_7 (fltp_pos (tp := tp) (k := 5) (A := A) (by decide) (by decide) htp)) (fun _ => ?_)
    refine z_iconst (v := 0) dX9_part_66 (by decide) ?_
    refine z_zret dX9_part_67 rfl (by decide) ?_
    rw [hQ, pPart_e, if_pos hok, if_pos d5]
    exact ⟨rfl, _, rfl, mRep_f hR _, mFr_f⟩
set_option maxHeartbeats 4000000 in
theorem c9_part (I : Nat → Nat → Int32) (L : Nat → Nat → Int64) (n b : Nat) (tk tp tv : Nat → Nat) (hb : b < 2) (A : Nat) (out : List (Nat × Int32)) (d : Nat) (sW gW aW : Nat → Nat) (hT : mTok I L n tk tp tv) (hA : A ≤ n) (hd : d ≤ 5) (hz : psz (A, (0 : Int32), out, d, sW, gW, aW) ≤ 640) (hR : mRep I b (A, (0 : Int32), out, d, sW, gW, aW)) : Zm yX9_part cX9_part 2 (some .boolean) 2 80 0 0 [.ref 0] (mh I L) (mQr I L b (pPart tk tp tv (A, (0 : Int32), out, d, sW, gW, aW))) := by
  refine Zm_of (lg := false) (by decide) (fun _ => by simp [Value.category]) (fun _ => Nat.le_of_ble_eq_true rfl) ?_
  show Zf x9_part 0 0 0 (zargs [.ref 0]) [] (mh I L) _
  generalize hQ0 : (mQr I L b (pPart tk tp tv (A, (0 : Int32), out, d, sW, gW, aW)) : Option Value → ZH → Prop) = Q0
  have hn := hT.1
  have htp := (hT.2.2.1 A hA).2.2
  obtain ⟨h7, h8, h16, h17, hc, h18, hw⟩ := id hR
  dsimp only at h7 h8 h16 h17 hc h18 hw
  have hz2 := hz
  unfold psz at hz2
  dsimp only at hz2
  refine z_aload_n (i := 0) dX9_part_0 rfl rfl ?_
  refine z_callV (st := []) (mc2 := 0) (ms2 := 0) zi9_229 zv_yX9_partWord (c9_partWord _ _ A (by omega) h7) dX9_part_1 (show (0 : Nat) < 35 by decide) rfl rfl rfl rfl (by decide) (by decide) (Nat.le_of_ble_eq_true rfl) (by decide) (by decide) (fun r h2 hq => ?_)
  obtain ⟨rfl, rfl⟩ := hq
  rw [mpw_eq hT hA h8 8 0 (by omega)]
  have hp1 : ¬ (0 : Int32) ≤ (if 7 + 0 ≤ tk A ∧ tk A ≤ 14 then nI (tk A - 7) else -1) → ¬ (7 ≤ tk A ∧ tk A ≤ 14) := by
    intro q1 q2
    rw [if_pos q2, zl0, zle (by omega) (by omega)] at q1
    omega
  have hp2 : (0 : Int32) ≤ (if 7 + 0 ≤ tk A ∧ tk A ≤ 14 then nI (tk A - 7) else -1) → (7 ≤ tk A ∧ tk A ≤ 14) ∧ (if 7 + 0 ≤ tk A ∧ tk A ≤ 14 then nI (tk A - 7) else -1) = nI (tk A - 7) := by
    intro q1
    by_cases q2 : 7 ≤ tk A ∧ tk A ≤ 14
    · exact ⟨q2, if_pos q2⟩
    · rw [if_neg q2] at q1
      exact absurd q1 (by decide)
  generalize (if 7 + 0 ≤ tk A ∧ tk A ≤ 14 then nI (tk A - 7) else -1) = pw at hp1 hp2 ⊢
  refine z_istore_n (i := 1) dX9_part_4 rfl (by decide) rfl ?_
  refine z_aload_n (i := 0) dX9_part_5 rfl rfl ?_
  refine z_gI zf9_173.g dX9_part_6 (by decide) rfl ?_
  rw [h8]
  refine z_if_ne 46 dX9_part_9 (by decide) (fun c_1 => absurd c_1 (fun q => q rfl)) (fun _ => ?_)
  refine z_aload_n (i := 0) dX9_part_12 rfl rfl ?_
  refine z_gR zf9_13.g dX9_part_13 (by decide) rfl rfl ?_
  refine z_aload_n (i := 0) dX9_part_16 rfl rfl ?_
  refine z_gI zf9_170.g dX9_part_17 (by decide) rfl ?_
  rw [h7]
  refine z_iald dX9_part_20 (by decide) rfl (zvin (by omega) (by omega)) ?_
  rw [zcl (by omega)]
  refine z_iconst (v := 2) dX9_part_21 (by decide) ?_
  refine z_icmp_eq 46 dX9_part_22 (by decide) (fun c_2 => ?_) (fun c_2 => ?_)
  · skip
    subst hQ0
    exact l9_p46 hb hT hA hd hz hR hp1 hp2 (Or.inl ((mtk_num (hT.2.2.1 A hA).1).mp c_2)) rfl _ rfl rfl
  · skip
    refine z_aload_n (i := 0) dX9_part_25 rfl rfl ?_
    refine z_bipush (v := 40) dX9_part_26 (by decide) ?_
    refine z_callV (st := []) (mc2 := 0) (ms2 := 0) zi9_176 zv_yX9_isSign (c9_isSign _ _ _ A (by omega) h7) dX9_part_28 (show (0 : Nat) < 35 by decide) rfl rfl rfl rfl (by decide) (by decide) (Nat.le_of_ble_eq_true rfl) (by decide) (by decide) (fun r h2 hq => ?_)
    obtain ⟨rfl, rfl⟩ := hq
    rw [show msg I L A 40 = decide (tk A = 40) from mTok_msg hT hA rfl h8]
    refine z_if_ne 46 dX9_part_31 (by decide) (fun c_3 => ?_) (fun c_3 => ?_)
    · skip
      subst hQ0
      exact l9_p46 hb hT hA hd hz hR hp1 hp2 (Or.inr (Or.inl (of_decide_eq_true ((zb_n _).mp c_3)))) rfl _ rfl rfl
    · skip
      refine z_iload_n (i := 1) dX9_part_34 rfl rfl ?_
      refine z_if_ge 46 dX9_part_35 (by decide) (fun c_4 => ?_) (fun c_4 => ?_)
      · skip
        subst hQ0
        exact l9_p46 hb hT hA hd hz hR hp1 hp2 (Or.inr (Or.inr (hp2 c_4).1)) rfl _ rfl rfl
      · skip
        refine z_aload_n (i := 0) dX9_part_38 rfl rfl ?_
        refine z_iconst (v := 1) dX9_part_39 (by decide) ?_
        refine z_callV (st := []) (mc2 := 0) (ms2 := 0) zi9_179 zv_yX9_wrong (c9_wrong I L 1 (by rw [h7]; exact zvin (by omega) (by omega))) dX9_part_40 (show (0 : Nat) < 35 by decide) rfl rfl rfl rfl (by decide) (by decide) (Nat.le_of_ble_eq_true rfl) (by decide) (by decide) (fun r h2 hq => ?_)
        obtain ⟨rfl, rfl⟩ := hq
        rw [show (if I 0 8 = 0 then zu I 0 8 (1 + 16 * I 3 (I 0 7).toNatClampNeg) else I) = zu I 0 8 (fltp tp 1 A) from wr_flt hT hA (k := 1) h7 h8]
        try simp only [Option.toList, List.nil_append]
        refine z_goto 59 dX9_part_43 (by decide) ?_
        refine z_aload_n (i := 0) dX9_part_59 rfl rfl ?_
        refine z_gI zf9_173.g dX9_part_60 (by decide) rfl ?_
        refine z_if_le 68 dX9_part_63 (by decide) (fun c_5 => absurd c_5 (fltp_pos (tp := tp) (k := 1) (A := A) (by decide) (by decide) htp)) (fun _ => ?_)
        refine z_iconst (v := 0) dX9_part_66 (by decide) ?_
        refine z_zret dX9_part_67 rfl (by decide) ?_
        subst hQ0
        have e2 : ¬ tk A = 2 := fun e => absurd ((mtk_num (hT.2.2.1 A hA).1).mpr e) (by assumption)
        have e40 : ¬ tk A = 40 := of_decide_eq_false ((zb_0 _).mp (show zb (decide (tk A = 40)) = 0 by assumption))
        have e7 := hp1 (show ¬ 0 ≤ pw by assumption)
        rw [pPart_e, if_neg (by omega)]
        exact ⟨rfl, _, rfl, mRep_f hR _, mFr_f⟩
