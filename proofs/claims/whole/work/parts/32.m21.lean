def pHead (tk tp tv : Nat → Nat) (A : Nat) : Nat × Int32 × Int32 := if tk A = 4 then (A + 1, 0, -1) else if tk A = 2 then (if tv A ≤ 5 then (A + 1, 0, nI (tv A)) else (A + 1, fltp tp 4 A, -1)) else (A + 1, fltp tp 1 A, -1)
def pEnd (tk tp tv : Nat → Nat) (h : Nat × Int32 × Int32) (out : List (Nat × Int32)) : Int32 × Nat × List (Nat × Int32) × MLn := ((pTake tk tp 59 (pBody tk tp tv h.1 h.2.1 out).1 (pBody tk tp tv h.1 h.2.1 out).2.1).2, (pTake tk tp 59 (pBody tk tp tv h.1 h.2.1 out).1 (pBody tk tp tv h.1 h.2.1 out).2.1).1, (pBody tk tp tv h.1 h.2.1 out).2.2.1 ++ [(0, 0)], (h.2.2, (pBody tk tp tv h.1 h.2.1 out).2.2.1.drop out.length))
def pLine (tk tp tv : Nat → Nat) (A k : Nat) (out : List (Nat × Int32)) : Int32 × Nat × List (Nat × Int32) × MLn := if tk A = 3 then (if k = 16 then (fltp tp 5 A, A, out, (0, [])) else pEnd tk tp tv (pHead tk tp tv (A + 1)) out) else (fltp tp 1 A, A, out, (0, []))
/-- the lines so far -/
def mLR (J : Nat → Nat → Int32) (b A : Nat) (out : List (Nat × Int32)) (ts : List MLn) : Prop := mRp J b A 0 out ∧ J 6 b = nI ts.length ∧ ∀ (q : Nat) (l : MLn), ts[q]? = some l → J 7 (16 * b + q) = l.1 ∧ mrpn l.2 0 ∧ ∃ p s, out = p ++ (l.2 ++ (0, (0 : Int32)) :: s) ∧ J 8 (16 * b + q) = nI (660 * b + p.length)
theorem pHead_A {tk tp tv : Nat → Nat} {A : Nat} : (pHead tk tp tv A).1 = A + 1 := by
  unfold pHead
  split
  · rfl
  · split
    · split <;> rfl
    · rfl
theorem pHead_f {tk tp tv : Nat → Nat} {n A : Nat} (hn : tk n = 0) (htp : ∀ i, i ≤ n → tp i ≤ 600) (hA : A ≤ n) (h : (pHead tk tp tv A).2.1 = 0) : A < n := by
  unfold pHead at h
  by_cases e : tk A = 4
  · exact lt_of_tk hn hA e (by decide)
  · rw [if_neg e] at h
    by_cases e2 : tk A = 2
    · exact lt_of_tk hn hA e2 (by decide)
    · rw [if_neg e2] at h
      exact absurd h (fltp_ne (by decide) (by decide) (htp A hA))
/-- behind a line that is right -/
theorem prLine {tk tp tv : Nat → Nat} {n A k : Nat} {out : List (Nat × Int32)} (hn : tk n = 0) (hn6 : n ≤ 600) (htp : ∀ i, i ≤ n → tp i ≤ 600) (htv : ∀ i, i ≤ n → tk i = 2 → tv i ≤ 9999) (hA : A ≤ n) (hz : out.length ≤ A + k) (h : (pLine tk tp tv A k out).1 = 0) : (pLine tk tp tv A k out).2.1 ≤ n ∧ A < (pLine tk tp tv A k out).2.1 ∧ k ≠ 16 ∧ (pLine tk tp tv A k out).2.2.1.length ≤ (pLine tk tp tv A k out).2.1 + (k + 1) ∧ ∃ cs, (pLine tk tp tv A k out).2.2.1 = out ++ (cs ++ [(0, 0)]) ∧ (pLine tk tp tv A k out).2.2.2.2 = cs ∧ mrp cs 0 1 := by
  unfold pLine at h ⊢
  by_cases e : tk A = 3
  · have hlt := lt_of_tk hn hA e (by decide)
    rw [if_pos e] at h ⊢
    by_cases e2 : k = 16
    · rw [if_pos e2] at h
      exact absurd h (fltp_ne (by decide) (by decide) (htp A hA))
    · rw [if_neg e2] at h ⊢
      unfold pEnd at h ⊢
      dsimp only at h ⊢
      have hpa := pHead_A (tk := tk) (tp := tp) (tv := tv) (A := A + 1)
      have hpf := pHead_f (tv := tv) hn htp (show A + 1 ≤ n by omega)
      have hb := prBody (tv := tv) (A := (pHead tk tp tv (A + 1)).1) (f := (pHead tk tp tv (A + 1)).2.1) (out := out) hn hn6 htp htv (fun z => by have := hpf z; omega) (by omega)
      generalize pBody tk tp tv (pHead tk tp tv (A + 1)).1 (pHead tk tp tv (A + 1)).2.1 out = R at *
      obtain ⟨t1, t2, t3, t4⟩ := pTake_le hn htp (by decide) (fun z => (hb.1 z).1) h
      obtain ⟨b1, b2, b3, b4, o, b5, b6, b7⟩ := hb.1 t1
      rw [t3, b5]
      refine ⟨by omega, by omega, e2, ?_, o, by rw [List.append_assoc], by rw [List.drop_left], b6⟩
      rw [List.length_append, List.length_append]
      simp only [List.length_cons, List.length_nil]
      omega
  · rw [if_neg e] at h
    exact absurd h (fltp_ne (by decide) (by decide) (htp A hA))
/-- the line that is laid behind the others -/
theorem mLR_add {J K : Nat → Nat → Int32} {b A A2 : Nat} {out cs : List (Nat × Int32)} {ts : List MLn} {p : Int32} (h : mLR J b A out ts) (hR : mRp K b A2 0 (out ++ (cs ++ [(0, 0)]))) (h6 : K 6 b = nI (ts.length + 1)) (h7 : K 7 = zu J 7 (16 * b + ts.length) p 7) (h8 : K 8 = zu J 8 (16 * b + ts.length) (nI (660 * b + out.length)) 8) (hm : mrp cs 0 1) : mLR K b A2 (out ++ (cs ++ [(0, 0)])) (ts ++ [(p, cs)]) := by
  refine ⟨hR, by rw [List.length_append]; exact h6, fun q l hq => ?_⟩
  rw [h7, h8, zu_apply, zu_apply]
  by_cases e : q < ts.length
  · rw [List.getElem?_append_left e] at hq
    obtain ⟨x1, x2, p1, s1, x3, x4⟩ := h.2.2 q l hq
    rw [if_neg (by omega), if_neg (by omega)]
    exact ⟨x1, x2, p1, s1 ++ (cs ++ [(0, 0)]), by rw [x3]; simp [List.append_assoc], x4⟩
  · rw [List.getElem?_append_right (by omega)] at hq
    have hz : q - ts.length < 1 := (List.getElem?_eq_some_iff.mp hq).1
    have hj2 : q = ts.length := by omega
    rw [hj2, Nat.sub_self] at hq
    cases hq
    rw [hj2, if_pos ⟨rfl, rfl⟩, if_pos ⟨rfl, rfl⟩]
    exact ⟨rfl, mrp_n cs 0 1 (by decide) hm, out, [], rfl, rfl⟩
abbrev mQl (I : Nat → Nat → Int32) (L : Nat → Nat → Int64) (b : Nat) (ts : List MLn) (p : Int32 × Nat × List (Nat × Int32) × MLn) : Option Value → ZH → Prop := fun r h => r = none ∧ ∃ J, h = mh J L ∧ lFr I J b ∧ J 0 8 = p.1 ∧ (p.1 = 0 → mLR J b p.2.1 p.2.2.1 (ts ++ [p.2.2.2]))
set_option maxHeartbeats 4000000 in
theorem c9_line (I : Nat → Nat → Int32) (L : Nat → Nat → Int64) (n b : Nat) (tk tp tv : Nat → Nat) (hb : b < 2) (A : Nat) (out : List (Nat × Int32)) (ts : List MLn) (hT : mTok I L n tk tp tv) (hA : A ≤ n) (hts : ts.length ≤ 16) (hsz : out.length ≤ A + ts.length) (hL : mLR I b A out ts) : Zm yX9_line cX9_line 3 none 3 120 0 0 [.ref 0] (mh I L) (mQl I L b ts (pLine tk tp tv A ts.length out)) := by
  refine Zm_of (lg := false) (by decide) (fun _ => by simp [Value.category]) (fun _ => Nat.le_of_ble_eq_true rfl) ?_
  show Zf x9_line 0 0 0 (zargs [.ref 0]) [] (mh I L) _
  generalize hQ0 : (mQl I L b ts (pLine tk tp tv A ts.length out) : Option Value → ZH → Prop) = Q0
  have hn := hT.1
  have htp : ∀ i, i ≤ n → tp i ≤ 600 := fun i hi => (hT.2.2.1 i hi).2.2
  obtain ⟨⟨h7, h8, h16, h17, hc⟩, h6, hls⟩ := id hL
  refine z_aload_n (i := 0) dX9_line_0 rfl rfl ?_
  refine z_iconst (v := 0) dX9_line_1 (by decide) ?_
  refine z_callV (st := []) (mc2 := 0) (ms2 := 0) zi9_183 zv_yX9_isWord (c9_isWord _ _ 0 (by decide) A (by omega) h7) dX9_line_2 (show (0 : Nat) < 35 by decide) rfl rfl rfl rfl (by decide) (by decide) (Nat.le_of_ble_eq_true rfl) (by decide) (by decide) (fun r h2 hq => ?_)
  obtain ⟨rfl, rfl⟩ := hq
  rw [show mwd I L A 0 = decide (tk A = 3) from mTok_mwd hT hA (by decide) h8]
  refine z_if_ne 16 dX9_line_5 (by decide) (fun c_1 => ?_) (fun c_1 => ?_)
  · skip
    have e3 : tk A = 3 := (of_decide_eq_true ((zb_n _).mp c_1))
    have hlt := lt_of_tk hT.2.1 hA e3 (by decide)
    refine z_aload_n (i := 0) dX9_line_16 rfl rfl ?_
    refine z_gR zf9_50.g dX9_line_17 (by decide) rfl rfl ?_
    refine z_aload_n (i := 0) dX9_line_20 rfl rfl ?_
    refine z_gI zf9_189.g dX9_line_21 (by decide) rfl ?_
    rw [h16]
    refine z_iald dX9_line_24 (by decide) rfl (zvin (by omega) (by omega)) ?_
    rw [zcl (by omega), h6]
    refine z_bipush (v := 16) dX9_line_25 (by decide) ?_
    refine z_icmp_ne 35 dX9_line_27 (by decide) (fun c_2 => ?_) (fun c_2 => ?_)
    · skip
      refine z_aload_n (i := 0) dX9_line_35 rfl rfl ?_
      refine z_gI zf9_173.g dX9_line_36 (by decide) rfl ?_
      have e16 := c_2
      rw [zl16, zeq (by omega) (by omega)] at e16
      rw [h8]
      refine z_if_le 43 dX9_line_39 (by decide) (fun _ => ?_) (fun c_3 => absurd (by decide) c_3)
      refine z_aload_n (i := 0) dX9_line_43 rfl rfl ?_
      refine z_dup dX9_line_44 rfl ?_
      refine z_gI zf9_170.g dX9_line_45 (by decide) rfl ?_
      rw [h7]
      refine z_iconst (v := 1) dX9_line_48 (by decide) ?_
      refine z_iadd dX9_line_49 ?_
      refine z_top (y := .int (nI (A + 1))) (by rw [zl1, nI_add]) ?_
      refine z_putI zf9_170 dX9_line_50 (fun h => by cases h) (by decide) rfl ?_
      refine z_bipush (v := 16) dX9_line_53 (by decide) ?_
      refine z_aload_n (i := 0) dX9_line_55 rfl rfl ?_
      refine z_gI zf9_189.g dX9_line_56 (by decide) rfl ?_
      rw [show zu I 0 7 (nI (A + 1)) 0 16 = nI b from h16]
      refine z_imul dX9_line_59 ?_
      refine z_aload_n (i := 0) dX9_line_60 rfl rfl ?_
      refine z_gR zf9_50.g dX9_line_61 (by decide) rfl rfl ?_
      refine z_aload_n (i := 0) dX9_line_64 rfl rfl ?_
      refine z_gI zf9_189.g dX9_line_65 (by decide) rfl ?_
      rw [show zu I 0 7 (nI (A + 1)) 0 16 = nI b from h16]
      refine z_iald dX9_line_68 (by decide) rfl (zvin (by omega) (by omega)) ?_
      rw [zcl (by omega), show zu I 0 7 (nI (A + 1)) 6 b = nI ts.length from h6]
      refine z_iadd dX9_line_69 ?_
      refine z_top (y := .int (nI (16 * b + ts.length))) (by simp only [zl16, pk_mul, nI_add]) ?_
      refine z_istore_n (i := 1) dX9_line_70 rfl (by decide) rfl ?_
      refine z_aload_n (i := 0) dX9_line_71 rfl rfl ?_
      refine z_gR zf9_53.g dX9_line_72 (by decide) rfl rfl ?_
      refine z_iload_n (i := 1) dX9_line_75 rfl rfl ?_
      refine z_iconst (v := (-1)) dX9_line_76 (by decide) ?_
      refine z_iast dX9_line_77 (by decide) rfl (zvin (by omega) (by omega)) ?_
      simp only [zcl (show 16 * b + ts.length ≤ 100000 by omega)]
      obtain ⟨I2, hI2⟩ : ∃ I2, I2 = zu (zu I 0 7 (nI (A + 1))) 7 (16 * b + ts.length) (-1) := ⟨_, rfl⟩
      rw [← hI2]
      have g7 : I2 0 7 = nI (A + 1) := by rw [hI2]; rfl
      have g8 : I2 0 8 = 0 := by rw [hI2]; exact h8
      have hT2 : mTok I2 L n tk tp tv := by rw [hI2]; exact mTok_cong hT rfl rfl
      have hA1 : A + 1 ≤ n := by omega
      have hR2 : mRp I2 b (A + 1) 0 out := by rw [hI2]; exact ⟨rfl, h8, h16, h17, hc⟩
      have g6 : I2 6 b = nI ts.length := by rw [hI2]; exact h6
      refine z_aload_n (i := 0) dX9_line_78 rfl rfl ?_
      refine z_iconst (v := 1) dX9_line_79 (by decide) ?_
      refine z_callV (st := []) (mc2 := 0) (ms2 := 0) zi9_186 zv_yX9_hasWord (c9_hasWord _ _ 1 (by decide) (A + 1) (by omega) g7) dX9_line_80 (show (0 : Nat) < 35 by decide) rfl rfl rfl rfl (by decide) (by decide) (Nat.le_of_ble_eq_true rfl) (by decide) (by decide) (fun r h2 hq => ?_)
      obtain ⟨rfl, rfl⟩ := hq
      rw [show mwd I2 L (A + 1) 1 = decide (tk (A + 1) = 4) from mTok_mwd hT2 hA1 (by decide) g8]
      refine z_if_ne 165 dX9_line_83 (by decide) (fun c_4 => ?_) (fun c_4 => ?_)
      · skip
        subst hQ0
        have e4 : tk (A + 1) = 4 := (of_decide_eq_true ((zb_n _).mp c_4))
        rw [show mnx I2 (A + 1) (decide (tk (A + 1) = 4)) = zu I2 0 7 (nI (A + 1 + 1)) by unfold mnx; rw [decide_eq_true e4]; rfl]
        have hd9 : pHead tk tp tv (A + 1) = (A + 1 + 1, 0, -1) := by unfold pHead; rw [if_pos e4]
        have hpl : pLine tk tp tv A ts.length out = pEnd tk tp tv (A + 1 + 1, 0, -1) out := by
          rw [← hd9]
          unfold pLine
          rw [if_pos e3, if_neg e16]
        have hle := prLine (tv := tv) (k := ts.length) (out := out) hT.2.1 hn htp (mTok_tv hT) hA hsz
        rw [hpl] at hle ⊢
        refine l9_l165 (n := n) (tk := tk) (tp := tp) (tv := tv) (k := ts.length) (A := A + 1 + 1) (f := 0) (out := out) hb ?_ ?_ (by omega) (by omega) (by omega) ?_ ?_ ?_ _ rfl rfl
        · exact mTok_cong hT2 rfl rfl
        · intro z; have := pHead_f (tv := tv) hT.2.1 htp (show A + 1 ≤ n by omega) (by first | (rw [hd9]; done) | (rw [hd9]; exact z)); omega
        · exact g6
        · exact mRp_at hR2 _
        · intro K g1 g6 g7 g8 gF
          refine ⟨rfl, K, rfl, ?_, g1.2.1, fun z => ?_⟩
          · refine lFr.tr ?_ gF
            rw [hI2]
            exact (lFr_of mFr_at).tr ((lFr_7 (by omega)).tr (lFr_of mFr_at))
          · obtain ⟨-, -, -, -, cs, c1, c2, c3⟩ := hle z
            have g1b : mRp K b (pEnd tk tp tv (A + 1 + 1, 0, -1) out).2.1 0 (pEnd tk tp tv (A + 1 + 1, 0, -1) out).2.2.1 := by
              have := g1
              rw [show (pTake tk tp 59 (pBody tk tp tv (A + 1 + 1) (0) out).1 (pBody tk tp tv (A + 1 + 1) (0) out).2.1).2 = 0 from z] at this
              exact this
            rw [c1] at g1b ⊢
            rw [show (pEnd tk tp tv (A + 1 + 1, 0, -1) out).2.2.2 = ((-1 : Int32), cs) from Prod.ext rfl c2]
            refine mLR_add hL g1b g6 ?_ ?_ c3
            · rw [g7, hI2]
              funext j
              simp only [zu_apply]
              by_cases hj : j = 16 * b + ts.length <;> simp [hj]
            · rw [g8, hI2]
              funext j
              simp only [zu_apply]
              by_cases hj : j = 16 * b + ts.length <;> simp [hj]
      · skip
        have e4 : ¬ tk (A + 1) = 4 := (of_decide_eq_false ((zb_0 _).mp c_4))
        rw [show mnx I2 (A + 1) (decide (tk (A + 1) = 4)) = I2 by unfold mnx; rw [decide_eq_false e4]; rfl]
        refine z_aload_n (i := 0) dX9_line_86 rfl rfl ?_
        refine z_gR zf9_13.g dX9_line_87 (by decide) rfl rfl ?_
        refine z_aload_n (i := 0) dX9_line_90 rfl rfl ?_
        refine z_gI zf9_170.g dX9_line_91 (by decide) rfl ?_
        rw [g7]
        refine z_iald dX9_line_94 (by decide) rfl (zvin (by omega) (by omega)) ?_
        rw [zcl (by omega)]
        refine z_iconst (v := 2) dX9_line_95 (by decide) ?_
        refine z_icmp_eq 107 dX9_line_96 (by decide) (fun c_5 => ?_) (fun c_5 => ?_)
        · skip
          have e2 : tk (A + 1) = 2 := (mtk_num (hT2.2.2.1 (A + 1) hA1).1).mp c_5
          have ev := (hT2.2.2.1 (A + 1) hA1).1
          rw [e2] at ev
          obtain ⟨ev1, ev2⟩ := mtk_val ev
          refine z_aload_n (i := 0) dX9_line_107 rfl rfl ?_
          refine z_gR zf9_19.g dX9_line_108 (by decide) rfl rfl ?_
          refine z_aload_n (i := 0) dX9_line_111 rfl rfl ?_
          refine z_gI zf9_170.g dX9_line_112 (by decide) rfl ?_
          rw [g7]
          refine z_lald dX9_line_115 (by decide) rfl (zvin (by omega) (by omega)) ?_
          rw [zcl (by omega), ev1]
          refine z_ldc2 (v := 5) dX9_line_116 (zTB_of (by decide +kernel) rfl) ?_
          refine z_lcmp dX9_line_119 ?_
          refine z_if_le 128 dX9_line_120 (by decide) (fun c_6 => ?_) (fun c_6 => ?_)
          · skip
            have e5 : tv (A + 1) ≤ 5 := by
              have := (lcmp_le _ _).mp c_6
              rcases Nat.lt_or_ge 5 (tv (A + 1)) with q | q
              · exact absurd ((lN_lt (a := 5) (b := tv (A + 1)) (by omega) (by omega)).mpr q) this
              · exact q
            refine z_aload_n (i := 0) dX9_line_128 rfl rfl ?_
            refine z_gR zf9_53.g dX9_line_129 (by decide) rfl rfl ?_
            refine z_iload_n (i := 1) dX9_line_132 rfl rfl ?_
            refine z_aload_n (i := 0) dX9_line_133 rfl rfl ?_
            refine z_gI zf9_173.g dX9_line_134 (by decide) rfl ?_
            rw [g8]
            refine z_if_le 144 dX9_line_137 (by decide) (fun _ => ?_) (fun c_7 => absurd (by decide) c_7)
            refine z_aload_n (i := 0) dX9_line_144 rfl rfl ?_
            refine z_gR zf9_19.g dX9_line_145 (by decide) rfl rfl ?_
            refine z_aload_n (i := 0) dX9_line_148 rfl rfl ?_
            refine z_gI zf9_170.g dX9_line_149 (by decide) rfl ?_
            rw [g7]
            refine z_lald dX9_line_152 (by decide) rfl (zvin (by omega) (by omega)) ?_
            rw [zcl (by omega), ev1, ]
            refine z_l2i dX9_line_153 rfl ?_
            skip
            refine z_iast dX9_line_154 (by decide) rfl (zvin (by omega) (by omega)) ?_
            simp only [zcl (show 16 * b + ts.length ≤ 100000 by omega)]
            refine z_aload_n (i := 0) dX9_line_155 rfl rfl ?_
            refine z_dup dX9_line_156 rfl ?_
            refine z_gI zf9_170.g dX9_line_157 (by decide) rfl ?_
            rw [show ((zu _ 7 (16 * b + ts.length) _ : Nat → Nat → Int32)) 0 7 = nI (A + 1) from g7]
            refine z_iconst (v := 1) dX9_line_160 (by decide) ?_
            refine z_iadd dX9_line_161 ?_
            refine z_top (y := .int (nI (A + 1 + 1))) (by rw [zl1, nI_add]) ?_
            refine z_putI zf9_170 dX9_line_162 (fun h => by cases h) (by decide) rfl ?_
            subst hQ0
            have hd9 : pHead tk tp tv (A + 1) = (A + 1 + 1, 0, nI (tv (A + 1))) := by unfold pHead; rw [if_neg e4, if_pos e2, if_pos e5]
            have hpl : pLine tk tp tv A ts.length out = pEnd tk tp tv (A + 1 + 1, 0, nI (tv (A + 1))) out := by
              rw [← hd9]
              unfold pLine
              rw [if_pos e3, if_neg e16]
            have hle := prLine (tv := tv) (k := ts.length) (out := out) hT.2.1 hn htp (mTok_tv hT) hA hsz
            rw [hpl] at hle ⊢
            refine l9_l165 (n := n) (tk := tk) (tp := tp) (tv := tv) (k := ts.length) (A := A + 1 + 1) (f := 0) (out := out) hb ?_ ?_ (by omega) (by omega) (by omega) ?_ ?_ ?_ _ rfl rfl
            · exact mTok_cong hT2 rfl rfl
            · intro z; have := pHead_f (tv := tv) hT.2.1 htp (show A + 1 ≤ n by omega) (by first | (rw [hd9]; done) | (rw [hd9]; exact z)); omega
            · exact g6
            · rw [lN_i]; exact mRp_at (mRp_cong hR2 rfl rfl rfl) _
            · intro K g1 g6 g7 g8 gF
              refine ⟨rfl, K, rfl, ?_, g1.2.1, fun z => ?_⟩
              · refine lFr.tr ?_ gF
                rw [hI2]
                rw [lN_i]; exact (lFr_of mFr_at).tr ((lFr_7 (by omega)).tr ((lFr_7 (by omega)).tr (lFr_of mFr_at)))
              · obtain ⟨-, -, -, -, cs, c1, c2, c3⟩ := hle z
                have g1b : mRp K b (pEnd tk tp tv (A + 1 + 1, 0, nI (tv (A + 1))) out).2.1 0 (pEnd tk tp tv (A + 1 + 1, 0, nI (tv (A + 1))) out).2.2.1 := by
                  have := g1
                  rw [show (pTake tk tp 59 (pBody tk tp tv (A + 1 + 1) (0) out).1 (pBody tk tp tv (A + 1 + 1) (0) out).2.1).2 = 0 from z] at this
                  exact this
                rw [c1] at g1b ⊢
                rw [show (pEnd tk tp tv (A + 1 + 1, 0, nI (tv (A + 1))) out).2.2.2 = ((nI (tv (A + 1)) : Int32), cs) from Prod.ext rfl c2]
                refine mLR_add hL g1b g6 ?_ ?_ c3
                · rw [g7, hI2]
                  rw [lN_i]
                  funext j
                  simp only [zu_apply]
                  by_cases hj : j = 16 * b + ts.length <;> simp [hj]
                · rw [g8, hI2]
                  funext j
                  simp only [zu_apply]
                  by_cases hj : j = 16 * b + ts.length <;> simp [hj]
          · skip
            have e5 : ¬ tv (A + 1) ≤ 5 := fun q => c_6 ((lcmp_le _ _).mpr (fun z => by have := (lN_lt (a := 5) (b := tv (A + 1)) (by omega) (by omega)).mp z; omega))
            refine z_aload_n (i := 0) dX9_line_123 rfl rfl ?_
            refine z_iconst (v := 4) dX9_line_124 (by decide) ?_
            refine z_callV (st := []) (mc2 := 0) (ms2 := 0) zi9_179 zv_yX9_wrong (c9_wrong I2 L 4 (by rw [g7]; exact zvin (by omega) (by omega))) dX9_line_125 (show (0 : Nat) < 35 by decide) rfl rfl rfl rfl (by decide) (by decide) (Nat.le_of_ble_eq_true rfl) (by decide) (by decide) (fun r h2 hq => ?_)
            obtain ⟨rfl, rfl⟩ := hq
            rw [show (if I2 0 8 = 0 then zu I2 0 8 (4 + 16 * I2 3 (I2 0 7).toNatClampNeg) else I2) = zu I2 0 8 (fltp tp 4 (A + 1)) from wr_flt hT2 hA1 (k := 4) g7 g8]
            try simp only [Option.toList, List.nil_append]
            refine z_aload_n (i := 0) dX9_line_128 rfl rfl ?_
            refine z_gR zf9_53.g dX9_line_129 (by decide) rfl rfl ?_
            refine z_iload_n (i := 1) dX9_line_132 rfl rfl ?_
            refine z_aload_n (i := 0) dX9_line_133 rfl rfl ?_
            refine z_gI zf9_173.g dX9_line_134 (by decide) rfl ?_
            refine z_if_le 144 dX9_line_137 (by decide) (fun c_8 => absurd c_8 (fltp_pos (tp := tp) (k := 4) (A := A + 1) (by decide) (by decide) (htp (A + 1) (by omega)))) (fun _ => ?_)
            refine z_iconst (v := (-1)) dX9_line_140 (by decide) ?_
            refine z_goto 154 dX9_line_141 (by decide) ?_
            skip
            refine z_iast dX9_line_154 (by decide) rfl (zvin (by omega) (by omega)) ?_
            simp only [zcl (show 16 * b + ts.length ≤ 100000 by omega)]
            refine z_aload_n (i := 0) dX9_line_155 rfl rfl ?_
            refine z_dup dX9_line_156 rfl ?_
            refine z_gI zf9_170.g dX9_line_157 (by decide) rfl ?_
            rw [show zu (zu I2 0 8 (fltp tp 4 (A + 1))) 7 (16 * b + ts.length) (-1) 0 7 = nI (A + 1) from g7]
            refine z_iconst (v := 1) dX9_line_160 (by decide) ?_
            refine z_iadd dX9_line_161 ?_
            refine z_top (y := .int (nI (A + 1 + 1))) (by rw [zl1, nI_add]) ?_
            refine z_putI zf9_170 dX9_line_162 (fun h => by cases h) (by decide) rfl ?_
            subst hQ0
            have hd9 : pHead tk tp tv (A + 1) = (A + 1 + 1, fltp tp 4 (A + 1), -1) := by unfold pHead; rw [if_neg e4, if_pos e2, if_neg e5]
            have hpl : pLine tk tp tv A ts.length out = pEnd tk tp tv (A + 1 + 1, fltp tp 4 (A + 1), -1) out := by
              rw [← hd9]
              unfold pLine
              rw [if_pos e3, if_neg e16]
            have hle := prLine (tv := tv) (k := ts.length) (out := out) hT.2.1 hn htp (mTok_tv hT) hA hsz
            rw [hpl] at hle ⊢
            refine l9_l165 (n := n) (tk := tk) (tp := tp) (tv := tv) (k := ts.length) (A := A + 1 + 1) (f := fltp tp 4 (A + 1)) (out := out) hb ?_ ?_ (by omega) (by omega) (by omega) ?_ ?_ ?_ _ rfl rfl
            · exact mTok_cong hT2 rfl rfl
            · intro z; have := pHead_f (tv := tv) hT.2.1 htp (show A + 1 ≤ n by omega) (by first | (rw [hd9]; done) | (rw [hd9]; exact z)); omega
            · exact g6
            · exact mRp_at (mRp_cong (mRp_f hR2 _) rfl rfl rfl) _
            · intro K g1 g6 g7 g8 gF
              refine ⟨rfl, K, rfl, ?_, g1.2.1, fun z => ?_⟩
              · refine lFr.tr ?_ gF
                rw [hI2]
                exact (lFr_of mFr_at).tr ((lFr_7 (by omega)).tr ((lFr_of mFr_f).tr ((lFr_7 (by omega)).tr (lFr_of mFr_at))))
              · obtain ⟨-, -, -, -, cs, c1, c2, c3⟩ := hle z
                have g1b : mRp K b (pEnd tk tp tv (A + 1 + 1, fltp tp 4 (A + 1), -1) out).2.1 0 (pEnd tk tp tv (A + 1 + 1, fltp tp 4 (A + 1), -1) out).2.2.1 := by
                  have := g1
                  rw [show (pTake tk tp 59 (pBody tk tp tv (A + 1 + 1) (fltp tp 4 (A + 1)) out).1 (pBody tk tp tv (A + 1 + 1) (fltp tp 4 (A + 1)) out).2.1).2 = 0 from z] at this
                  exact this
                rw [c1] at g1b ⊢
                rw [show (pEnd tk tp tv (A + 1 + 1, fltp tp 4 (A + 1), -1) out).2.2.2 = ((-1 : Int32), cs) from Prod.ext rfl c2]
                refine mLR_add hL g1b g6 ?_ ?_ c3
                · rw [g7, hI2]
                  funext j
                  simp only [zu_apply]
                  by_cases hj : j = 16 * b + ts.length <;> simp [hj]
                · rw [g8, hI2]
                  funext j
                  simp only [zu_apply]
                  by_cases hj : j = 16 * b + ts.length <;> simp [hj]
        · skip
          have e2 : ¬ tk (A + 1) = 2 := fun e => absurd ((mtk_num (hT2.2.2.1 (A + 1) hA1).1).mpr e) c_5
          refine z_aload_n (i := 0) dX9_line_99 rfl rfl ?_
          refine z_iconst (v := 1) dX9_line_100 (by decide) ?_
          refine z_callV (st := []) (mc2 := 0) (ms2 := 0) zi9_179 zv_yX9_wrong (c9_wrong I2 L 1 (by rw [g7]; exact zvin (by omega) (by omega))) dX9_line_101 (show (0 : Nat) < 35 by decide) rfl rfl rfl rfl (by decide) (by decide) (Nat.le_of_ble_eq_true rfl) (by decide) (by decide) (fun r h2 hq => ?_)
          obtain ⟨rfl, rfl⟩ := hq
          rw [show (if I2 0 8 = 0 then zu I2 0 8 (1 + 16 * I2 3 (I2 0 7).toNatClampNeg) else I2) = zu I2 0 8 (fltp tp 1 (A + 1)) from wr_flt hT2 hA1 (k := 1) g7 g8]
          try simp only [Option.toList, List.nil_append]
          refine z_goto 128 dX9_line_104 (by decide) ?_
          refine z_aload_n (i := 0) dX9_line_128 rfl rfl ?_
          refine z_gR zf9_53.g dX9_line_129 (by decide) rfl rfl ?_
          refine z_iload_n (i := 1) dX9_line_132 rfl rfl ?_
          refine z_aload_n (i := 0) dX9_line_133 rfl rfl ?_
          refine z_gI zf9_173.g dX9_line_134 (by decide) rfl ?_
          refine z_if_le 144 dX9_line_137 (by decide) (fun c_9 => absurd c_9 (fltp_pos (tp := tp) (k := 1) (A := A + 1) (by decide) (by decide) (htp (A + 1) (by omega)))) (fun _ => ?_)
          refine z_iconst (v := (-1)) dX9_line_140 (by decide) ?_
          refine z_goto 154 dX9_line_141 (by decide) ?_
          skip
          refine z_iast dX9_line_154 (by decide) rfl (zvin (by omega) (by omega)) ?_
          simp only [zcl (show 16 * b + ts.length ≤ 100000 by omega)]
          refine z_aload_n (i := 0) dX9_line_155 rfl rfl ?_
          refine z_dup dX9_line_156 rfl ?_
          refine z_gI zf9_170.g dX9_line_157 (by decide) rfl ?_
          rw [show zu (zu I2 0 8 (fltp tp 1 (A + 1))) 7 (16 * b + ts.length) (-1) 0 7 = nI (A + 1) from g7]
          refine z_iconst (v := 1) dX9_line_160 (by decide) ?_
          refine z_iadd dX9_line_161 ?_
          refine z_top (y := .int (nI (A + 1 + 1))) (by rw [zl1, nI_add]) ?_
          refine z_putI zf9_170 dX9_line_162 (fun h => by cases h) (by decide) rfl ?_
          subst hQ0
          have hd9 : pHead tk tp tv (A + 1) = (A + 1 + 1, fltp tp 1 (A + 1), -1) := by unfold pHead; rw [if_neg e4, if_neg e2]
          have hpl : pLine tk tp tv A ts.length out = pEnd tk tp tv (A + 1 + 1, fltp tp 1 (A + 1), -1) out := by
            rw [← hd9]
            unfold pLine
            rw [if_pos e3, if_neg e16]
          have hle := prLine (tv := tv) (k := ts.length) (out := out) hT.2.1 hn htp (mTok_tv hT) hA hsz
          rw [hpl] at hle ⊢
          refine l9_l165 (n := n) (tk := tk) (tp := tp) (tv := tv) (k := ts.length) (A := A + 1 + 1) (f := fltp tp 1 (A + 1)) (out := out) hb ?_ ?_ (by omega) (by omega) (by omega) ?_ ?_ ?_ _ rfl rfl
          · exact mTok_cong hT2 rfl rfl
          · intro z; have := pHead_f (tv := tv) hT.2.1 htp (show A + 1 ≤ n by omega) (by first | (rw [hd9]; done) | (rw [hd9]; exact z)); omega
          · exact g6
          · exact mRp_at (mRp_cong (mRp_f hR2 _) rfl rfl rfl) _
          · intro K g1 g6 g7 g8 gF
            refine ⟨rfl, K, rfl, ?_, g1.2.1, fun z => ?_⟩
            · refine lFr.tr ?_ gF
              rw [hI2]
              exact (lFr_of mFr_at).tr ((lFr_7 (by omega)).tr ((lFr_of mFr_f).tr ((lFr_7 (by omega)).tr (lFr_of mFr_at))))
            · obtain ⟨-, -, -, -, cs, c1, c2, c3⟩ := hle z
              have g1b : mRp K b (pEnd tk tp tv (A + 1 + 1, fltp tp 1 (A + 1), -1) out).2.1 0 (pEnd tk tp tv (A + 1 + 1, fltp tp 1 (A + 1), -1) out).2.2.1 := by
                have := g1
                rw [show (pTake tk tp 59 (pBody tk tp tv (A + 1 + 1) (fltp tp 1 (A + 1)) out).1 (pBody tk tp tv (A + 1 + 1) (fltp tp 1 (A + 1)) out).2.1).2 = 0 from z] at this
                exact this
              rw [c1] at g1b ⊢
              rw [show (pEnd tk tp tv (A + 1 + 1, fltp tp 1 (A + 1), -1) out).2.2.2 = ((-1 : Int32), cs) from Prod.ext rfl c2]
              refine mLR_add hL g1b g6 ?_ ?_ c3
              · rw [g7, hI2]
                funext j
                simp only [zu_apply]
                by_cases hj : j = 16 * b + ts.length <;> simp [hj]
              · rw [g8, hI2]
                funext j
                simp only [zu_apply]
                by_cases hj : j = 16 * b + ts.length <;> simp [hj]
    · skip
      have e16 := c_2
      rw [zl16, zeq (by omega) (by omega)] at e16
      refine z_aload_n (i := 0) dX9_line_30 rfl rfl ?_
      refine z_iconst (v := 5) dX9_line_31 (by decide) ?_
      refine z_callV (st := []) (mc2 := 0) (ms2 := 0) zi9_179 zv_yX9_wrong (c9_wrong I L 5 (by rw [h7]; exact zvin (by omega) (by omega))) dX9_line_32 (show (0 : Nat) < 35 by decide) rfl rfl rfl rfl (by decide) (by decide) (Nat.le_of_ble_eq_true rfl) (by decide) (by decide) (fun r h2 hq => ?_)
      obtain ⟨rfl, rfl⟩ := hq
      rw [show (if I 0 8 = 0 then zu I 0 8 (5 + 16 * I 3 (I 0 7).toNatClampNeg) else I) = zu I 0 8 (fltp tp 5 (A)) from wr_flt hT hA (k := 5) h7 h8]
      try simp only [Option.toList, List.nil_append]
      refine z_aload_n (i := 0) dX9_line_35 rfl rfl ?_
      refine z_gI zf9_173.g dX9_line_36 (by decide) rfl ?_
      refine z_if_le 43 dX9_line_39 (by decide) (fun c_10 => absurd c_10 (fltp_pos (tp := tp) (k := 5) (A := A) (by decide) (by decide) (htp (A) (by omega)))) (fun _ => ?_)
      refine z_vret dX9_line_42 rfl ?_
      subst hQ0
      unfold pLine
      rw [if_pos e3, if_pos e16]
      exact ⟨rfl, _, rfl, lFr_of mFr_f, rfl, fun z => absurd z (fltp_ne (by decide) (by decide) (htp A hA))⟩
  · skip
    have e3 : ¬ tk A = 3 := (of_decide_eq_false ((zb_0 _).mp c_1))
    refine z_aload_n (i := 0) dX9_line_8 rfl rfl ?_
    refine z_iconst (v := 1) dX9_line_9 (by decide) ?_
    refine z_callV (st := []) (mc2 := 0) (ms2 := 0) zi9_179 zv_yX9_wrong (c9_wrong I L 1 (by rw [h7]; exact zvin (by omega) (by omega))) dX9_line_10 (show (0 : Nat) < 35 by decide) rfl rfl rfl rfl (by decide) (by decide) (Nat.le_of_ble_eq_true rfl) (by decide) (by decide) (fun r h2 hq => ?_)
    obtain ⟨rfl, rfl⟩ := hq
    rw [show (if I 0 8 = 0 then zu I 0 8 (1 + 16 * I 3 (I 0 7).toNatClampNeg) else I) = zu I 0 8 (fltp tp 1 (A)) from wr_flt hT hA (k := 1) h7 h8]
    try simp only [Option.toList, List.nil_append]
    refine z_goto 35 dX9_line_13 (by decide) ?_
    refine z_aload_n (i := 0) dX9_line_35 rfl rfl ?_
    refine z_gI zf9_173.g dX9_line_36 (by decide) rfl ?_
    refine z_if_le 43 dX9_line_39 (by decide) (fun c_11 => absurd c_11 (fltp_pos (tp := tp) (k := 1) (A := A) (by decide) (by decide) (htp (A) (by omega)))) (fun _ => ?_)
    refine z_vret dX9_line_42 rfl ?_
    subst hQ0
    unfold pLine
    rw [if_neg e3]
    exact ⟨rfl, _, rfl, lFr_of mFr_f, rfl, fun z => absurd z (fltp_ne (by decide) (by decide) (htp A hA))⟩
