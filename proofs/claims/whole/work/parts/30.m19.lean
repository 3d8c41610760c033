def pRun (tk tp tv : Nat → Nat) : Nat → MP → MP
  | 0, s => s
  | m + 1, s => if s.2.1 = 0 then (if (pPart tk tp tv s).2 = true then pRun tk tp tv m (pPart tk tp tv s).1 else if (pGob tk tp 6 (pPart tk tp tv s).1).2 = true then pRun tk tp tv m (pGob tk tp 6 (pPart tk tp tv s).1).1 else (pGob tk tp 6 (pPart tk tp tv s).1).1) else s
theorem pRun_e (tk tp tv : Nat → Nat) (m : Nat) (s : MP) : pRun tk tp tv (m + 1) s = if s.2.1 = 0 then (if (pPart tk tp tv s).2 = true then pRun tk tp tv m (pPart tk tp tv s).1 else if (pGob tk tp 6 (pPart tk tp tv s).1).2 = true then pRun tk tp tv m (pGob tk tp 6 (pPart tk tp tv s).1).1 else (pGob tk tp 6 (pPart tk tp tv s).1).1) else s := rfl
theorem pGob_f {tk tp : Nat → Nat} {m A : Nat} {f : Int32} {out : List (Nat × Int32)} {d : Nat} {sW gW aW : Nat → Nat} (h : ¬ f = 0) : pGob tk tp (m + 1) (A, f, out, d, sW, gW, aW) = ((A, f, out, d, sW, gW, aW), false) := by
  show q0 _ _ _ _ = _
  rw [q0_e, if_neg h]
theorem prRun {n : Nat} {pre : List (Nat × Int32)} {A0 N0 : Nat} {tk tp tv : Nat → Nat} (hn : tk n = 0) (htp : ∀ i, i ≤ n → tp i ≤ 600) (htv : ∀ i, i ≤ n → tk i = 2 → tv i ≤ 9999) : ∀ (m : Nat) (A : Nat) (out : List (Nat × Int32)) (d : Nat) (sW gW aW : Nat → Nat), n - A < m → pI n pre A0 N0 (A, 0, out, d, sW, gW, aW) 0 → pI n pre A0 N0 (pRun tk tp tv m (A, 0, out, d, sW, gW, aW)) 1 ∧ ((pRun tk tp tv m (A, 0, out, d, sW, gW, aW)).2.1 = 0 → pnd (pRun tk tp tv m (A, 0, out, d, sW, gW, aW)).2.2.2.2.1 (pRun tk tp tv m (A, 0, out, d, sW, gW, aW)).2.2.2.2.2.1 (pRun tk tp tv m (A, 0, out, d, sW, gW, aW)).2.2.2.2.2.2 (pRun tk tp tv m (A, 0, out, d, sW, gW, aW)).2.2.2.1 = 0 ∧ A < (pRun tk tp tv m (A, 0, out, d, sW, gW, aW)).1) := by
  intro m
  induction m with
  | zero => intro A out d sW gW aW h; omega
  | succ m ih =>
  intro A out d sW gW aW hm hp
  have hq := prPart (tv := tv) hn htp htv A out d sW gW aW hp
  rw [pRun_e, if_pos rfl]
  rcases e : pPart tk tp tv (A, 0, out, d, sW, gW, aW) with ⟨⟨A1, f1, o1, d1, s1, g1, a1⟩, b1⟩
  rw [e] at hq
  dsimp only at hq ⊢
  cases b1 with
  | true =>
    obtain ⟨q1, q2, q3⟩ := hq.1 rfl
    subst q1
    rw [if_pos rfl]
    have hA1 : A1 ≤ n := q3.1
    have := ih A1 o1 d1 s1 g1 a1 (by omega) q3
    exact ⟨this.1, fun z => ⟨(this.2 z).1, by have := (this.2 z).2; omega⟩⟩
  | false =>
    rw [if_neg (by decide)]
    obtain ⟨q1, q2⟩ := hq.2 rfl
    by_cases ef : f1 = 0
    · have hlt := q2 ef
      have hg := prGob (A1 := A1) hn htp 6 A1 f1 o1 d1 s1 g1 a1 (by have := q1.2.2.1; dsimp only at this; omega) (Nat.le_refl _) q1
      rcases e2 : pGob tk tp 6 (A1, f1, o1, d1, s1, g1, a1) with ⟨⟨A2, f2, o2, d2, s2, g2, a2⟩, b2⟩
      rw [e2] at hg
      obtain ⟨hg1, hg2⟩ := hg
      dsimp only at hg1 hg2 ⊢
      cases b2 with
      | true =>
        obtain ⟨p1, p2, p3⟩ := hg1 rfl
        subst p1
        rw [if_pos rfl]
        have hA2 : A2 ≤ n := p3.1
        have := ih A2 o2 d2 s2 g2 a2 (by omega) p3
        exact ⟨this.1, fun z => ⟨(this.2 z).1, by have := (this.2 z).2; omega⟩⟩
      | false =>
        rw [if_neg (by decide)]
        obtain ⟨p1, p2⟩ := hg2 rfl
        exact ⟨p1, fun z => ⟨(p2 z).1, by have := (p2 z).2; dsimp only; omega⟩⟩
    · rw [pGob_f ef, if_neg (show ¬ false = true by decide)]
      exact ⟨q1, fun z => absurd z ef⟩
abbrev x9_line : ZX := (RX9, cX9_line, 3, none, "line", 3, 120, false)
set_option maxHeartbeats 4000000 in
theorem l9_run {L : Nat → Nat → Int64} {Q : Option Value → ZH → Prop} {I0 : Nat → Nat → Int32} {n b : Nat} {tk tp tv : Nat → Nat} (hb : b < 2) {pre : List (Nat × Int32)} {A0 N0 : Nat} (hN : N0 + n ≤ 640 + A0) {X : Value} : ∀ (m : Nat) (I : Nat → Nat → Int32) (A : Nat) (f : Int32) (out : List (Nat × Int32)) (d : Nat) (sW gW aW : Nat → Nat) (ls : Nat → Option Value), mTok I L n tk tp tv → (f = 0 → pI n pre A0 N0 (A, f, out, d, sW, gW, aW) 0 ∧ n - A < m) → mRep I b (A, f, out, d, sW, gW, aW) → mFr I0 I b → ls 0 = some (.ref 0) → ls 1 = some X → ls 2 = some (.int 1) → (∀ (J : Nat → Nat → Int32) (l2 : Nat → Option Value), mRep J b (pRun tk tp tv m (A, f, out, d, sW, gW, aW)) → mFr I0 J b → l2 0 = some (.ref 0) → l2 1 = some X → Zf x9_line 0 0 234 l2 [] (mh J L) Q) → Zf x9_line 0 0 200 ls [] (mh I L) Q := by
  intro m
  induction m with
  | zero =>
    intro I A f out d sW gW aW ls hT hp hR hF hl0 hl1 hl2 hk
    have hR0 := hR
    obtain ⟨h7, h8, h16, h17, hc, h18, hw⟩ := hR
    dsimp only at h8
    have hf0 : ¬ f = 0 := fun z => by have := (hp z).2; omega
    refine z_iload_n (i := 2) dX9_line_200 rfl hl2 ?_
    refine z_if_eq 234 dX9_line_201 (by decide) (fun c => absurd c (by decide)) (fun _ => ?_)
    refine z_aload_n (i := 0) dX9_line_204 rfl hl0 ?_
    refine z_gI zf9_173.g dX9_line_205 (by decide) rfl ?_
    rw [h8]
    refine z_if_ne 234 dX9_line_208 (by decide) (fun _ => ?_) (fun c => absurd c hf0)
    exact hk I ls hR0 hF hl0 hl1
  | succ m ih =>
  intro I A f out d sW gW aW ls hT hp hR hF hl0 hl1 hl2 hk
  have hn := hT.1
  obtain ⟨h7, h8, h16, h17, hc, h18, hw⟩ := id hR
  dsimp only at h7 h8 h16 h17 hc h18 hw
  refine z_iload_n (i := 2) dX9_line_200 rfl hl2 ?_
  refine z_if_eq 234 dX9_line_201 (by decide) (fun c_1 => absurd c_1 (by decide)) (fun _ => ?_)
  refine z_aload_n (i := 0) dX9_line_204 rfl hl0 ?_
  refine z_gI zf9_173.g dX9_line_205 (by decide) rfl ?_
  rw [h8]
  refine z_if_ne 234 dX9_line_208 (by decide) (fun c_2 => ?_) (fun c_2 => ?_)
  · skip
    exact hk I ls (by rw [pRun_e, if_neg c_2]; exact hR) hF hl0 hl1
  · skip
    have hf0 := c_2
    subst hf0
    obtain ⟨hp0, hm⟩ := hp rfl
    have htp : ∀ i, i ≤ n → tp i ≤ 600 := fun i hi => (hT.2.2.1 i hi).2.2
    have htv : ∀ i, i ≤ n → tk i = 2 → tv i ≤ 9999 := fun i hi h => (mtk_val (by have := (hT.2.2.1 i hi).1; rw [h] at this; exact this)).2
    have hq := prPart (tv := tv) hT.2.1 htp htv A out d sW gW aW hp0
    have hr := pRun_e tk tp tv m (A, 0, out, d, sW, gW, aW)
    rw [if_pos rfl] at hr
    have hcall := c9_part I L n b tk tp tv hb A out d sW gW aW hT hp0.1 hp0.2.2.1 (by have h1 := hp0.2.2.2.1; have h2 := hp0.1; dsimp only at h1 h2; omega) hR
    rcases e : pPart tk tp tv (A, 0, out, d, sW, gW, aW) with ⟨⟨A1, f1, o1, d1, s1, g1, a1⟩, b1⟩
    rw [e] at hq hr hcall
    dsimp only at hq hr
    refine z_aload_n (i := 0) dX9_line_211 rfl hl0 ?_
    refine z_callV (st := []) (mc2 := 0) (ms2 := 0) zi9_215 zv_yX9_part hcall dX9_line_212 (show (0 : Nat) < 35 by decide) rfl rfl rfl rfl (by decide) (by decide) (Nat.le_of_ble_eq_true rfl) (by decide) (by decide) (fun r h2 hq9 => ?_)
    obtain ⟨rfl, J, rfl, hR1, hF1⟩ := hq9
    dsimp only at hR1
    have hT1 : mTok J L n tk tp tv := mTok_cong hT (hF1.1 2 (by decide) (by decide) (by decide) (by decide) (by decide) (by decide)) (hF1.1 3 (by decide) (by decide) (by decide) (by decide) (by decide) (by decide))
    refine z_if_ne 225 dX9_line_215 (by decide) (fun c_3 => ?_) (fun c_3 => ?_)
    · skip
      refine z_iconst (v := 1) dX9_line_225 (by decide) ?_
      refine z_goto 230 dX9_line_226 (by decide) ?_
      refine z_istore_n (i := 2) dX9_line_230 rfl (by decide) rfl ?_
      refine z_goto 200 dX9_line_231 (by decide) ?_
      have hb1 := (zb_n _).mp c_3
      dsimp only at hb1
      subst hb1
      rw [if_pos rfl] at hr
      obtain ⟨q1, q2, q3⟩ := hq.1 rfl
      exact ih J A1 f1 o1 d1 s1 g1 a1 _ hT1 (fun _ => ⟨q3, by have h1 : A1 ≤ n := q3.1; omega⟩) hR1 (hF.tr hF1) hl0 hl1 rfl (fun J l2 h1 h2 => hk J l2 (by rw [hr]; exact h1) h2)
    · skip
      have hb1 := (zb_0 _).mp c_3
      dsimp only at hb1
      subst hb1
      rw [if_neg (by decide)] at hr
      obtain ⟨q1, q2⟩ := hq.2 rfl
      have hcal2 := c9_goesOnBehind J L n b tk tp tv hb A1 f1 o1 d1 s1 g1 a1 hT1 q1.1 q1.2.2.1 (by have h1 := q1.2.2.2.1; have h2 := q1.1; dsimp only at h1 h2; omega) q1.2.2.2.2.1 hR1
      have hg := prGob (A1 := A1) hT.2.1 htp 6 A1 f1 o1 d1 s1 g1 a1 (by have := q1.2.2.1; dsimp only at this; omega) (Nat.le_refl _) q1
      have hgf := @pGob_f tk tp 5 A1 f1 o1 d1 s1 g1 a1
      rcases e2 : pGob tk tp 6 (A1, f1, o1, d1, s1, g1, a1) with ⟨⟨A2, f2, o2, d2, s2, g2, a2⟩, b2⟩
      rw [e2] at hg hcal2 hr hgf
      dsimp only at hr
      refine z_aload_n (i := 0) dX9_line_218 rfl hl0 ?_
      refine z_callV (st := []) (mc2 := 0) (ms2 := 0) zi9_219 zv_yX9_goesOnBehind hcal2 dX9_line_219 (show (0 : Nat) < 35 by decide) rfl rfl rfl rfl (by decide) (by decide) (Nat.le_of_ble_eq_true rfl) (by decide) (by decide) (fun r h2 hq9 => ?_)
      obtain ⟨rfl, K, rfl, hR2, hF2⟩ := hq9
      dsimp only at hR2
      have hT2 : mTok K L n tk tp tv := mTok_cong hT1 (hF2.1 2 (by decide) (by decide) (by decide) (by decide) (by decide) (by decide)) (hF2.1 3 (by decide) (by decide) (by decide) (by decide) (by decide) (by decide))
      refine z_if_eq 229 dX9_line_222 (by decide) (fun c_4 => ?_) (fun c_4 => ?_)
      · skip
        refine z_iconst (v := 0) dX9_line_229 (by decide) ?_
        refine z_istore_n (i := 2) dX9_line_230 rfl (by decide) rfl ?_
        refine z_goto 200 dX9_line_231 (by decide) ?_
        have hb2 := (zb_0 _).mp c_4
        dsimp only at hb2
        subst hb2
        rw [if_neg (by decide)] at hr
        refine z_iload_n (i := 2) dX9_line_200 rfl rfl ?_
        refine z_if_eq 234 dX9_line_201 (by decide) (fun _ => ?_) (fun c => absurd rfl c)
        exact hk K _ (by rw [hr]; exact hR2) (hF.tr (hF1.tr hF2)) hl0 hl1
      · skip
        refine z_iconst (v := 1) dX9_line_225 (by decide) ?_
        refine z_goto 230 dX9_line_226 (by decide) ?_
        refine z_istore_n (i := 2) dX9_line_230 rfl (by decide) rfl ?_
        refine z_goto 200 dX9_line_231 (by decide) ?_
        have hb2 := (zb_n _).mp c_4
        dsimp only at hb2
        subst hb2
        rw [if_pos rfl] at hr
        obtain ⟨p1, p2, p3⟩ := hg.1 rfl
        have hf1 : f1 = 0 := by
          rcases Classical.em (f1 = 0) with z | z
          · exact z
          · exact absurd (congrArg Prod.snd (hgf z)) (show ¬ true = false by decide)
        have hlt := q2 hf1
        exact ih K A2 f2 o2 d2 s2 g2 a2 _ hT2 (fun _ => ⟨p3, by have h1 : A2 ≤ n := p3.1; dsimp only at p2 hlt; omega⟩) hR2 (hF.tr (hF1.tr hF2)) hl0 hl1 rfl (fun J l2 h1 h2 => hk J l2 (by rw [hr]; exact h1) h2)
