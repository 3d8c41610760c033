def pText (tk tp tv : Nat → Nat) : Nat → Nat → List (Nat × Int32) → List MLn → Int32 × List MLn
  | 0, _, _, ts => (0, ts)
  | m + 1, A, out, ts => if tk A = 0 then (0, ts) else if (pLine tk tp tv A ts.length out).1 = 0 then pText tk tp tv m (pLine tk tp tv A ts.length out).2.1 (pLine tk tp tv A ts.length out).2.2.1 (ts ++ [(pLine tk tp tv A ts.length out).2.2.2]) else ((pLine tk tp tv A ts.length out).1, ts)
theorem pText_e (tk tp tv : Nat → Nat) (m A : Nat) (out : List (Nat × Int32)) (ts : List MLn) : pText tk tp tv (m + 1) A out ts = if tk A = 0 then (0, ts) else if (pLine tk tp tv A ts.length out).1 = 0 then pText tk tp tv m (pLine tk tp tv A ts.length out).2.1 (pLine tk tp tv A ts.length out).2.2.1 (ts ++ [(pLine tk tp tv A ts.length out).2.2.2]) else ((pLine tk tp tv A ts.length out).1, ts) := rfl
def mtz (I : Nat → Nat → Int32) (hd : Nat) (ts : List MLn) : Prop := ∀ (q : Nat) (l : MLn), ts[q]? = some l → ∃ i, I 8 (16 * hd + q) = nI i ∧ 660 * hd ≤ i ∧ i + l.2.length < 660 * hd + 660
/-- the text that holds, in its own half -/
def mtq (I : Nat → Nat → Int32) (hd : Nat) (ts : List MLn) : Prop := mtx I hd ts ∧ mtz I hd ts
theorem mtq_keep {I K : Nat → Nat → Int32} {hd : Nat} {ts : List MLn} (h : mtq I hd ts) (h15 : K 0 15 = I 0 15) (h6 : K 6 hd = I 6 hd) (h78 : ∀ j, 16 * hd ≤ j → j < 16 * hd + 16 → K 7 j = I 7 j ∧ K 8 j = I 8 j) (h9 : ∀ j, 660 * hd ≤ j → j < 660 * hd + 660 → K 9 j = I 9 j ∧ K 10 j = I 10 j) : mtq K hd ts := by
  obtain ⟨⟨a1, a2, a3, a4, a5⟩, hz⟩ := h
  have hq16 : ∀ (q : Nat) (l : MLn), ts[q]? = some l → q < 16 := fun q l hq => by have := (List.getElem?_eq_some_iff.mp hq).1; omega
  refine ⟨⟨a1, by rw [h15]; exact a2, a3, by rw [h6]; exact a4, fun q l hq => ?_⟩, fun q l hq => ?_⟩
  · obtain ⟨x1, x2, x3, i, x4, ⟨x5, x5b⟩, x6⟩ := a5 q l hq
    obtain ⟨i2, y1, y2, y3⟩ := hz q l hq
    have hl := hq16 q l hq
    obtain ⟨e7, e8⟩ := h78 (16 * hd + q) (by omega) (by omega)
    have hi : i2 = i := by
      rw [x4] at y1
      exact ((nI_eq (by omega) (by omega)).mp y1).symm
    subst hi
    refine ⟨by rw [e7]; exact x1, x2, x3, i2, by rw [e8]; exact x4, ⟨fun j c hj => ?_, ?_⟩, x6⟩
    · have hj2 : j < l.2.length := (List.getElem?_eq_some_iff.mp hj).1
      rw [(h9 (i2 + j) (by omega) (by omega)).1, (h9 (i2 + j) (by omega) (by omega)).2]
      exact x5 j c hj
    · rw [(h9 (i2 + l.2.length) (by omega) (by omega)).1]
      exact x5b
  · obtain ⟨i2, y1, y2, y3⟩ := hz q l hq
    have hl := hq16 q l hq
    exact ⟨i2, by rw [(h78 (16 * hd + q) (by omega) (by omega)).2]; exact y1, y2, y3⟩
theorem mLR_tx {J : Nat → Nat → Int32} {b A : Nat} {out : List (Nat × Int32)} {ts : List MLn} (h : mLR J b A out ts) (hb : b < 2) (ht : ts.length ≤ 16) (hz : out.length ≤ 640) : mtq (zu J 0 15 (nI b)) b ts := by
  refine ⟨⟨hb, rfl, ht, h.2.1, fun q l hq => ?_⟩, fun q l hq => ?_⟩
  rotate_left
  · obtain ⟨x1, x2, p, s, x3, x4⟩ := h.2.2 q l hq
    have hlen : out.length = p.length + (l.2.length + (s.length + 1)) := by rw [x3]; simp
    exact ⟨660 * b + p.length, x4, by omega, by omega⟩
  obtain ⟨x1, x2, p, s, x3, x4⟩ := h.2.2 q l hq
  have hc := h.1.2.2.2.2
  have hlen : out.length = p.length + (l.2.length + (s.length + 1)) := by rw [x3]; simp
  refine ⟨x1, x2, by omega, 660 * b + p.length, x4, ⟨fun j c hj => ?_, ?_⟩, by omega⟩
  · have hj2 : j < l.2.length := (List.getElem?_eq_some_iff.mp hj).1
    have := hc (p.length + j) c (by rw [x3, List.getElem?_append_right (by omega), Nat.add_sub_cancel_left, List.getElem?_append_left hj2]; exact hj)
    rwa [← Nat.add_assoc] at this
  · have := (hc (p.length + l.2.length) (0, 0) (by rw [x3, List.getElem?_append_right (by omega), Nat.add_sub_cancel_left, List.getElem?_append_right (by omega), Nat.sub_self]; rfl)).1
    rwa [← Nat.add_assoc] at this
abbrev x9_text : ZX := (RX9, cX9_text, 1, (some .int), "text", 4, 160, false)
set_option maxHeartbeats 4000000 in
theorem l9_t60 {I : Nat → Nat → Int32} {L : Nat → Nat → Int64} {Q : Option Value → ZH → Prop} {b : Nat} {f : Int32} (h8 : I 0 8 = f) (h16 : I 0 16 = nI b) (hQ : Q (some (.int f)) (mh (if f = 0 then zu I 0 15 (nI b) else I) L)) (ls : Nat → Option Value) (hl0 : ls 0 = some (.ref 0)) : Zf x9_text 0 0 60 ls [] (mh I L) Q := by
  refine z_aload_n (i := 0) dX9_text_60 rfl hl0 ?_
  refine z_gI zf9_173.g dX9_text_61 (by decide) rfl ?_
  rw [h8]
  refine z_if_ne 75 dX9_text_64 (by decide) (fun c_1 => ?_) (fun c_1 => ?_)
  · skip
    refine z_aload_n (i := 0) dX9_text_75 rfl hl0 ?_
    refine z_gI zf9_173.g dX9_text_76 (by decide) rfl ?_
    rw [h8]
    refine z_iret dX9_text_79 rfl ?_
    rw [if_neg c_1] at hQ
    exact hQ
  · skip
    refine z_aload_n (i := 0) dX9_text_67 rfl hl0 ?_
    refine z_aload_n (i := 0) dX9_text_68 rfl hl0 ?_
    refine z_gI zf9_189.g dX9_text_69 (by decide) rfl ?_
    rw [h16]
    refine z_putI zf9_198 dX9_text_72 (fun h => by cases h) (by decide) rfl ?_
    refine z_aload_n (i := 0) dX9_text_75 rfl hl0 ?_
    refine z_gI zf9_173.g dX9_text_76 (by decide) rfl ?_
    rw [show zu I 0 15 (nI b) 0 8 = f from h8]
    refine z_iret dX9_text_79 rfl ?_
    rw [if_pos c_1] at hQ
    exact hQ
set_option maxHeartbeats 4000000 in
theorem l9_t34 {L : Nat → Nat → Int64} {Q : Option Value → ZH → Prop} {I0 : Nat → Nat → Int32} {n b : Nat} {tk tp tv : Nat → Nat} (hb : b < 2) : ∀ (m : Nat) (I : Nat → Nat → Int32) (A : Nat) (out : List (Nat × Int32)) (ts : List MLn) (ls : Nat → Option Value), 17 - ts.length < m → mTok I L n tk tp tv → A ≤ n → ts.length ≤ 16 → out.length ≤ A + ts.length → mLR I b A out ts → lFr I0 I b → ls 0 = some (.ref 0) → (∀ J : Nat → Nat → Int32, lFr I0 J b → ((pText tk tp tv m A out ts).1 = 0 → mtq (zu J 0 15 (nI b)) b (pText tk tp tv m A out ts).2) → Q (some (.int (pText tk tp tv m A out ts).1)) (mh (if (pText tk tp tv m A out ts).1 = 0 then zu J 0 15 (nI b) else J) L)) → Zf x9_text 0 0 34 ls [] (mh I L) Q := by
  intro m
  induction m with
  | zero => intro I A out ts ls hm; omega
  | succ m ih =>
  intro I A out ts ls hm hT hA hts hsz hL hF hl0 hQ
  have hn := hT.1
  have htp : ∀ i, i ≤ n → tp i ≤ 600 := fun i hi => (hT.2.2.1 i hi).2.2
  obtain ⟨h7, h8, h16, h17, hc⟩ := id hL.1
  have hr := pText_e tk tp tv m A out ts
  refine z_aload_n (i := 0) dX9_text_34 rfl hl0 ?_
  refine z_gI zf9_173.g dX9_text_35 (by decide) rfl ?_
  rw [h8]
  refine z_if_ne 60 dX9_text_38 (by decide) (fun c_1 => absurd c_1 (fun q => q rfl)) (fun _ => ?_)
  refine z_aload_n (i := 0) dX9_text_41 rfl hl0 ?_
  refine z_gR zf9_13.g dX9_text_42 (by decide) rfl rfl ?_
  refine z_aload_n (i := 0) dX9_text_45 rfl hl0 ?_
  refine z_gI zf9_170.g dX9_text_46 (by decide) rfl ?_
  rw [h7]
  refine z_iald dX9_text_49 (by decide) rfl (zvin (by omega) (by omega)) ?_
  rw [zcl (by omega)]
  refine z_if_eq 60 dX9_text_50 (by decide) (fun c_2 => ?_) (fun c_2 => ?_)
  · skip
    have e0 : tk A = 0 := (mtk_end (hT.2.2.1 A hA).1).mp c_2
    rw [if_pos e0] at hr
    rw [hr] at hQ
    exact l9_t60 h8 h16 (hQ I hF (fun _ => mLR_tx hL hb hts (by omega))) ls hl0
  · skip
    have e0 : ¬ tk A = 0 := fun e => c_2 ((mtk_end (hT.2.2.1 A hA).1).mpr e)
    rw [if_neg e0] at hr
    have hcall := c9_line I L n b tk tp tv hb A out ts hT hA hts hsz hL
    have hpl := prLine (tv := tv) (k := ts.length) (out := out) hT.2.1 hn htp (mTok_tv hT) hA hsz
    refine z_aload_n (i := 0) dX9_text_53 rfl hl0 ?_
    refine z_callV (st := []) (mc2 := 0) (ms2 := 0) zi9_201 zv_yX9_line hcall dX9_text_54 (show (0 : Nat) < 35 by decide) rfl rfl rfl rfl (by decide) (by decide) (Nat.le_of_ble_eq_true rfl) (by decide) (by decide) (fun r h2 hq => ?_)
    obtain ⟨rfl, J, rfl, hF1, hJ8, hJL⟩ := hq
    generalize pLine tk tp tv A ts.length out = P at *
    try simp only [Option.toList, List.nil_append]
    refine z_goto 34 dX9_text_57 (by decide) ?_
    have hTJ : mTok J L n tk tp tv := mTok_cong hT (hF1.1 2 (by decide) (by decide) (by decide) (by decide) (by decide) (by decide) (by decide) (by decide) (by decide)) (hF1.1 3 (by decide) (by decide) (by decide) (by decide) (by decide) (by decide) (by decide) (by decide) (by decide))
    by_cases ef : P.1 = 0
    · rw [if_pos ef] at hr
      obtain ⟨g1, g2, g3, g4, -⟩ := hpl ef
      have hl9 : (ts ++ [P.2.2.2]).length = ts.length + 1 := by simp
      rw [hr] at hQ
      exact ih J P.2.1 P.2.2.1 (ts ++ [P.2.2.2]) ls (by omega) hTJ g1 (by omega) (by omega) (hJL ef) (hF.tr hF1) hl0 hQ
    · rw [if_neg ef] at hr
      rw [hr] at hQ
      refine z_aload_n (i := 0) dX9_text_34 rfl hl0 ?_
      refine z_gI zf9_173.g dX9_text_35 (by decide) rfl ?_
      rw [hJ8]
      refine z_if_ne 60 dX9_text_38 (by decide) (fun _ => ?_) (fun c => absurd c ef)
      exact l9_t60 hJ8 ((hF1.2.1 16 (by decide) (by decide) (by decide) (by decide)).trans h16) (hQ J (hF.tr hF1) (fun z => absurd z ef)) ls hl0
