theorem wEq_s {d v : Nat} {sW gW aW s2 g2 a2 : Nat → Nat} (h : wEq d (va_up sW d v) gW aW s2 g2 a2) (h0 : sW d = 0) : wEq d sW gW aW (va_up s2 d 0) g2 a2 := by
  intro j hj
  refine ⟨?_, (h j hj).2.1, (h j hj).2.2⟩
  by_cases e : j = d
  · rw [e, va_up_self, h0]
  · rw [va_up_ne _ _ e, (h j hj).1, va_up_ne _ _ e]
theorem wEq_g {d v : Nat} {sW gW aW s2 g2 a2 : Nat → Nat} (h : wEq d sW (va_up gW d v) aW s2 g2 a2) (h0 : gW d = 0) : wEq d sW gW aW s2 (va_up g2 d 0) a2 := by
  intro j hj
  refine ⟨(h j hj).1, ?_, (h j hj).2.2⟩
  by_cases e : j = d
  · rw [e, va_up_self, h0]
  · rw [va_up_ne _ _ e, (h j hj).2.1, va_up_ne _ _ e]
theorem wEq_a {d v : Nat} {sW gW aW s2 g2 a2 : Nat → Nat} (h : wEq d sW gW (va_up aW d v) s2 g2 a2) (h0 : aW d = 0) : wEq d sW gW aW s2 g2 (va_up a2 d 0) := by
  intro j hj
  refine ⟨(h j hj).1, (h j hj).2.1, ?_⟩
  by_cases e : j = d
  · rw [e, va_up_self, h0]
  · rw [va_up_ne _ _ e, (h j hj).2.2, va_up_ne _ _ e]
theorem wEq_dn {d : Nat} {sW gW aW s2 g2 a2 : Nat → Nat} (h : wEq (d + 1) (va_up sW (d + 1) 0) (va_up gW (d + 1) 0) (va_up aW (d + 1) 0) s2 g2 a2) : wEq d sW gW aW s2 g2 a2 := by
  intro j hj
  have := h j (by omega)
  rw [va_up_ne _ _ (by omega), va_up_ne _ _ (by omega), va_up_ne _ _ (by omega)] at this
  exact this
theorem wEq.rf (d : Nat) (sW gW aW : Nat → Nat) : wEq d sW gW aW sW gW aW := fun _ _ => ⟨rfl, rfl, rfl⟩
theorem Cl_f {tk tp tv : Nat → Nat} {F n d : Nat} {q : MP → MP × Bool} {A : Nat} {sW gW aW : Nat → Nat} {x : MP} {r : RS} (h : ¬ r.2.1 = 0) (hx : x.2.1 = r.2.1) : Cl tk tp tv F n d q A sW gW aW x r := ⟨fun z => absurd z h, fun _ => hx⟩
theorem Cl_o {tk tp tv : Nat → Nat} {F n d : Nat} {q : MP → MP × Bool} {A : Nat} {sW gW aW s2 g2 a2 : Nat → Nat} {x : MP} {r : RS} (h : r.2.1 = 0) (hr : r.1 ≤ n) (hA : A ≤ r.1) (hw : wEq d sW gW aW s2 g2 a2) (hx : x = Gx tk tp tv F (q (r.1, 0, r.2.2, d, s2, g2, a2))) : Cl tk tp tv F n d q A sW gW aW x r := ⟨fun _ => ⟨hr, hA, s2, g2, a2, hw, hx⟩, fun z => absurd h z⟩
theorem Cl_w {tk tp tv : Nat → Nat} {F n d : Nat} {q : MP → MP × Bool} {A A2 : Nat} {sW gW aW s2 g2 a2 : Nat → Nat} {x : MP} {r : RS} (h : Cl tk tp tv F n d q A2 s2 g2 a2 x r) (hA : A ≤ A2) (hw : wEq d sW gW aW s2 g2 a2) : Cl tk tp tv F n d q A sW gW aW x r :=
  ⟨fun z => by
    obtain ⟨h1, h2, s3, g3, a3, h3, h4⟩ := h.1 z
    exact ⟨h1, by omega, s3, g3, a3, hw.tr h3, h4⟩, h.2⟩
theorem pTake_y {tk tp : Nat → Nat} {c A : Nat} (h : tk A = c) : pTake tk tp c A 0 = (A + 1, 0) := by unfold pTake; rw [if_pos rfl, if_pos h]
theorem pTake_n {tk tp : Nat → Nat} {c A : Nat} (h : ¬ tk A = c) : pTake tk tp c A 0 = (A, fltp tp 1 A) := by unfold pTake; rw [if_pos rfl, if_neg h]
theorem pTake_w {tk tp : Nat → Nat} {c A : Nat} {f : Int32} (h : ¬ f = 0) : pTake tk tp c A f = (A, f) := by unfold pTake; rw [if_neg h]
theorem clPart {n F : Nat} {tk tp tv : Nat → Nat} (hn : tk n = 0) (hF : n < F) (htp : ∀ i, i ≤ n → tp i ≤ 600) {d : Nat} {ands : RS → RS} (hd : d ≤ 5) (hAnds : d < 5 → ∀ (A : Nat) (out : List (Nat × Int32)) (sW gW aW : Nat → Nat), A ≤ n → sW (d + 1) = 0 → gW (d + 1) = 0 → aW (d + 1) = 0 → Cl tk tp tv F n (d + 1) (q249 tk tp (pGob tk tp 5)) A sW gW aW (pR9 tk tp tv F (A, 0, out, d + 1, sW, gW, aW)) (ands (A, 0, out))) : ∀ (A : Nat) (out : List (Nat × Int32)) (sW gW aW : Nat → Nat), A ≤ n → Cl tk tp tv F n d (pGob tk tp 6) (A + 1) sW gW aW (pR9 tk tp tv F (A, 0, out, d, sW, gW, aW)) (rPart tk tp tv ands d (A, 0, out)) := by
  intro A out sW gW aW hA
  rw [pR9_e hn hF (A, 0, out, d, sW, gW, aW) rfl hA hd, pPart_e]
  unfold rPart
  dsimp only
  rw [if_pos (show (0 : Int32) = 0 from rfl)]
  by_cases e0 : tk A = 2 ∨ tk A = 40 ∨ (7 ≤ tk A ∧ tk A ≤ 14)
  · have hlt := lt_of_tk hn hA rfl (show tk A ≠ 0 by omega)
    rw [if_pos e0, if_pos e0]
    by_cases e1 : d = 5
    · rw [if_pos e1, if_pos (show 5 ≤ d by omega)]
      have hne := fltp_ne (tp := tp) (k := 5) (A := A) (by decide) (by decide) (htp A hA)
      refine Cl_f hne ?_
      rw [if_neg (show ¬ false = true by decide), pGob_f hne, Gx_n]
    · rw [if_neg e1, if_neg (show ¬ 5 ≤ d by omega)]
      by_cases e2 : tk A = 40
      · rw [if_pos e2, if_pos e2, if_pos (show true = true from rfl)]
        have hc := hAnds (by omega) (A + 1) out (va_up sW (d + 1) 0) (va_up gW (d + 1) 0) (va_up aW (d + 1) 0) (by omega) (va_up_self _ _ _) (va_up_self _ _ _) (va_up_self _ _ _)
        dsimp only at hc ⊢
        generalize pR9 tk tp tv F (A + 1, 0, out, d + 1, va_up sW (d + 1) 0, va_up gW (d + 1) 0, va_up aW (d + 1) 0) = x at hc ⊢
        generalize ands (A + 1, 0, out) = r at hc ⊢
        obtain ⟨A1, f1, o1⟩ := r
        unfold rTake
        dsimp only at hc ⊢
        by_cases ef : f1 = 0
        · obtain ⟨h1, h2, s2, g2, a2, h3, h4⟩ := hc.1 ef
          subst ef
          dsimp only at h1 h2 h4
          rw [q249_e, if_neg (by omega)] at h4
          simp only [Nat.add_sub_cancel] at h4
          by_cases e41 : tk A1 = 41
          · have hlt1 := lt_of_tk hn h1 e41 (by decide)
            rw [if_pos e41, gobS 5 6 _ _ _ d _ _ _ (by omega) (by omega)] at h4
            rw [pTake_y e41]
            exact Cl_o rfl hlt1 (by dsimp only; omega) (wEq_dn h3) h4
          · have hne := fltp_ne (tp := tp) (k := 1) (A := A1) (by decide) (by decide) (htp A1 h1)
            rw [if_neg e41, pGob_f hne, Gx_n] at h4
            rw [pTake_n e41]
            exact Cl_f hne (by rw [h4])
        · rw [pTake_w ef]
          exact Cl_f ef (hc.2 ef)
      · rw [if_neg e2, if_neg e2]
        by_cases e3 : tk A = 2
        · rw [if_pos e3, if_pos e3, if_neg (show ¬ false = true by decide)]
          exact Cl_o rfl hlt (Nat.le_refl _) (wEq.rf _ _ _ _) rfl
        · rw [if_neg e3, if_neg e3, if_neg (show ¬ false = true by decide)]
          exact Cl_o rfl hlt (Nat.le_refl _) (wEq.rf _ _ _ _) rfl
  · rw [if_neg e0, if_neg e0]
    have hne := fltp_ne (tp := tp) (k := 1) (A := A) (by decide) (by decide) (htp A hA)
    refine Cl_f hne ?_
    rw [if_neg (show ¬ false = true by decide), pGob_f hne, Gx_n]
theorem rSumL_e (tk : Nat → Nat) (part : RS → RS) (m : Nat) (s : RS) : rSumL tk part (m + 1) s = if s.2.1 = 0 ∧ (tk s.1 = 43 ∨ tk s.1 = 45) then rSumL tk part m (rPut (if tk s.1 = 43 then 3 else 4) 0 (part (s.1 + 1, s.2))) else s := rfl
theorem rAndsL_e (tk : Nat → Nat) (test : RS → RS) (m : Nat) (s : RS) : rAndsL tk test (m + 1) s = if s.2.1 = 0 ∧ tk s.1 = 6 then rAndsL tk test m (rPut 7 0 (test (s.1 + 1, s.2))) else s := rfl
theorem rSumL_f {tk : Nat → Nat} {part : RS → RS} {s : RS} (h : ¬ s.2.1 = 0) : ∀ m, rSumL tk part m s = s
  | 0 => rfl
  | m + 1 => by simp only [rSumL]; rw [if_neg (fun z => h z.1)]
theorem rAndsL_f {tk : Nat → Nat} {test : RS → RS} {s : RS} (h : ¬ s.2.1 = 0) : ∀ m, rAndsL tk test m s = s
  | 0 => rfl
  | m + 1 => by simp only [rAndsL]; rw [if_neg (fun z => h z.1)]
theorem clSumL {n F : Nat} {tk tp tv : Nat → Nat} (hn : tk n = 0) (hF : n < F) (htp : ∀ i, i ≤ n → tp i ≤ 600) {d : Nat} {part : RS → RS} (hP : ∀ (A : Nat) (out : List (Nat × Int32)) (sW gW aW : Nat → Nat), A ≤ n → Cl tk tp tv F n d (pGob tk tp 6) (A + 1) sW gW aW (pR9 tk tp tv F (A, 0, out, d, sW, gW, aW)) (part (A, 0, out))) : ∀ (m A : Nat) (out : List (Nat × Int32)) (sW gW aW : Nat → Nat), n - A < m → A ≤ n → sW d = 0 → Cl tk tp tv F n d (q96 tk tp (pGob tk tp 5)) A sW gW aW (Gx tk tp tv F (q43 tk tp (pGob tk tp 5) (A, 0, out, d, sW, gW, aW))) (rSumL tk part m (A, 0, out)) := by
  intro m
  induction m with
  | zero => intro A out sW gW aW h; omega
  | succ m ih =>
  intro A out sW gW aW hm hA h0
  rw [q43_e, rSumL_e]
  have eA : (A, (0 : Int32), out).1 = A := rfl
  have eB : (A, (0 : Int32), out).2.1 = 0 := rfl
  rw [eA]
  by_cases e43 : tk A = 43
  · rw [if_pos e43, if_pos ⟨eB, Or.inl e43⟩, if_pos e43]
    · obtain hlt := lt_of_tk hn hA e43 (by decide)
      rw [Gx_t]
      have hc := hP (A + 1) out (va_up sW d 3) gW aW (by omega)
      generalize pR9 tk tp tv F (A + 1, 0, out, d, va_up sW d 3, gW, aW) = x at hc ⊢
      generalize part (A + 1, 0, out) = r at hc ⊢
      obtain ⟨A1, f1, o1⟩ := r
      unfold rPut
      dsimp only at hc ⊢
      by_cases ef : f1 = 0
      · obtain ⟨h1, h2, s2, g2, a2, h3, h4⟩ := hc.1 ef
        subst ef
        dsimp only at h1 h2 h4
        have hs2 : s2 d = 3 := by rw [(h3 d (Nat.le_refl _)).1, va_up_self]
        rw [show pGob tk tp 6 (A1, 0, o1, d, s2, g2, a2) = q0 tk tp (pGob tk tp 5) (A1, 0, o1, d, s2, g2, a2) from rfl, q0_e, if_pos (show (0 : Int32) = 0 from rfl), if_neg (by rw [hs2]; decide), hs2] at h4
        rw [h4]
        exact Cl_w (ih A1 (o1 ++ [(3, 0)]) (va_up s2 d 0) g2 a2 (by omega) h1 (va_up_self _ _ _)) (by omega) (wEq_s h3 h0)
      · rw [rSumL_f (by exact ef)]
        exact Cl_f ef (hc.2 ef)
  · rw [if_neg e43]
    by_cases e45 : tk A = 45
    · rw [if_pos e45, if_pos ⟨eB, Or.inr e45⟩, if_neg e43]
      obtain hlt := lt_of_tk hn hA e45 (by decide)
      rw [Gx_t]
      have hc := hP (A + 1) out (va_up sW d 4) gW aW (by omega)
      generalize pR9 tk tp tv F (A + 1, 0, out, d, va_up sW d 4, gW, aW) = x at hc ⊢
      generalize part (A + 1, 0, out) = r at hc ⊢
      obtain ⟨A1, f1, o1⟩ := r
      unfold rPut
      dsimp only at hc ⊢
      by_cases ef : f1 = 0
      · obtain ⟨h1, h2, s2, g2, a2, h3, h4⟩ := hc.1 ef
        subst ef
        dsimp only at h1 h2 h4
        have hs2 : s2 d = 4 := by rw [(h3 d (Nat.le_refl _)).1, va_up_self]
        rw [show pGob tk tp 6 (A1, 0, o1, d, s2, g2, a2) = q0 tk tp (pGob tk tp 5) (A1, 0, o1, d, s2, g2, a2) from rfl, q0_e, if_pos (show (0 : Int32) = 0 from rfl), if_neg (by rw [hs2]; decide), hs2] at h4
        rw [h4]
        exact Cl_w (ih A1 (o1 ++ [(4, 0)]) (va_up s2 d 0) g2 a2 (by omega) h1 (va_up_self _ _ _)) (by omega) (wEq_s h3 h0)
      · rw [rSumL_f (by exact ef)]
        exact Cl_f ef (hc.2 ef)
    · rw [if_neg e45, if_neg (fun z => z.2.elim e43 e45)]
      exact Cl_o rfl hA (Nat.le_refl _) (wEq.rf _ _ _ _) rfl
theorem clSum {n F : Nat} {tk tp tv : Nat → Nat} (hn : tk n = 0) (hF : n < F) (htp : ∀ i, i ≤ n → tp i ≤ 600) {N : Nat} (hN : n ≤ N) {d : Nat} {part : RS → RS} (hP : ∀ (A : Nat) (out : List (Nat × Int32)) (sW gW aW : Nat → Nat), A ≤ n → Cl tk tp tv F n d (pGob tk tp 6) (A + 1) sW gW aW (pR9 tk tp tv F (A, 0, out, d, sW, gW, aW)) (part (A, 0, out))) : ∀ (A : Nat) (out : List (Nat × Int32)) (sW gW aW : Nat → Nat), A ≤ n → sW d = 0 → Cl tk tp tv F n d (q96 tk tp (pGob tk tp 5)) (A + 1) sW gW aW (pR9 tk tp tv F (A, 0, out, d, sW, gW, aW)) (rSum tk N part (A, 0, out)) := by
  intro A out sW gW aW hA h0
  unfold rSum
  have hc := hP A out sW gW aW hA
  generalize pR9 tk tp tv F (A, 0, out, d, sW, gW, aW) = x at hc ⊢
  generalize part (A, 0, out) = r at hc ⊢
  obtain ⟨A1, f1, o1⟩ := r
  by_cases ef : f1 = 0
  · obtain ⟨h1, h2, s2, g2, a2, h3, h4⟩ := hc.1 ef
    subst ef
    dsimp only at h1 h2 h4
    have hs2 : s2 d = 0 := by rw [(h3 d (Nat.le_refl _)).1, h0]
    rw [show pGob tk tp 6 (A1, 0, o1, d, s2, g2, a2) = q0 tk tp (pGob tk tp 5) (A1, 0, o1, d, s2, g2, a2) from rfl, q0_e, if_pos (show (0 : Int32) = 0 from rfl), if_pos hs2] at h4
    rw [h4]
    exact Cl_w (clSumL hn hF htp hP N A1 o1 s2 g2 a2 (by omega) h1 hs2) h2 h3
  · rw [rSumL_f (by exact ef)]
    exact Cl_f ef (hc.2 ef)
