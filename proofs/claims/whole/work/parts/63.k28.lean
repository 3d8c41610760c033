/-! a line and a text by descent: pure -/
theorem rPart_f {tk tp tv : Nat → Nat} {ands : RS → RS} {d : Nat} {s : RS} (h : ¬ s.2.1 = 0) : rPart tk tp tv ands d s = s := by
  obtain ⟨A, f, o⟩ := s
  rw [rPart_e]
  exact if_neg h
theorem rSum_f {tk : Nat → Nat} {N : Nat} {part : RS → RS} {s : RS} (hp : part s = s) (h : ¬ s.2.1 = 0) : rSum tk N part s = s := by
  unfold rSum
  rw [hp]
  exact rSumL_f h N
theorem rTest_f {tk : Nat → Nat} {sum : RS → RS} {s : RS} (hp : sum s = s) (h : ¬ s.2.1 = 0) : rTest tk sum s = s := by
  unfold rTest
  rw [hp]
  exact if_neg (fun q => h q.1)
theorem rAnds_f {tk tp tv : Nat → Nat} {N : Nat} {s : RS} (h : ¬ s.2.1 = 0) : ∀ k d, rAnds tk tp tv N k d s = s
  | 0, _ => rfl
  | k + 1, d => by
    show rAndsL tk _ N (rTest tk _ s) = s
    rw [rTest_f (rSum_f (rPart_f h) h) h]
    exact rAndsL_f h N
theorem rTake_f {tk tp : Nat → Nat} {c : Nat} {s : RS} (h : ¬ s.2.1 = 0) : rTake tk tp c s = s := by
  unfold rTake
  rw [pTake_w h]
theorem rTake_y {tk tp : Nat → Nat} {c A : Nat} {o : List (Nat × Int32)} (h : tk A = c) : rTake tk tp c (A, 0, o) = (A + 1, 0, o) := by
  unfold rTake
  rw [pTake_y h]
theorem rTake_n {tk tp : Nat → Nat} {c A : Nat} {o : List (Nat × Int32)} (h : ¬ tk A = c) : rTake tk tp c (A, 0, o) = (A, fltp tp 1 A, o) := by
  unfold rTake
  rw [pTake_n h]
def rWh (tk tp tv : Nat → Nat) (s : RS) : RS := if s.2.1 = 0 then (if tk s.1 = 4 ∨ (tk s.1 = 2 ∧ tv s.1 ≤ 5) then (s.1 + 1, s.2) else if tk s.1 = 2 then (s.1, fltp tp 4 s.1, s.2.2) else (s.1, fltp tp 1 s.1, s.2.2)) else s
theorem rWh_e (tk tp tv : Nat → Nat) (A : Nat) (f : Int32) (o : List (Nat × Int32)) : rWh tk tp tv (A, f, o) = if f = 0 then (if tk A = 4 ∨ (tk A = 2 ∧ tv A ≤ 5) then (A + 1, f, o) else if tk A = 2 then (A, fltp tp 4 A, o) else (A, fltp tp 1 A, o)) else (A, f, o) := rfl
def rWp (tk tv : Nat → Nat) (A : Nat) : Int32 := if tk A = 4 then -1 else nI (tv A)
def rEnd (tk tp tv : Nat → Nat) (s : RS) : RS := rTake tk tp 59 (rAnds tk tp tv 600 6 0 (rTake tk tp 5 s))
def rLine (tk tp tv : Nat → Nat) (A : Nat) (out : List (Nat × Int32)) : RS := rEnd tk tp tv (rWh tk tp tv (rTake tk tp 3 (A, 0, out)))
theorem rEnd_f {tk tp tv : Nat → Nat} {s : RS} (h : ¬ s.2.1 = 0) : rEnd tk tp tv s = s := by
  unfold rEnd
  rw [rTake_f h, rAnds_f h, rTake_f h]
theorem pEnd_f {tk tp tv : Nat → Nat} {B : Nat} {f pv : Int32} {out : List (Nat × Int32)} (h : ¬ f = 0) : (pEnd tk tp tv (B, f, pv) out).1 = f := by
  unfold pEnd pBody
  dsimp only
  rw [pTake_w h]
  dsimp only
  rw [show (602 : Nat) = 601 + 1 from rfl, pRun_e, if_neg h]
  dsimp only
  rw [pTake_w h]
theorem tail_eq {tk tp tv : Nat → Nat} {n B : Nat} {pv : Int32} (outR outC : List (Nat × Int32)) (hn : tk n = 0) (hn6 : n ≤ 600) (htp : ∀ i, i ≤ n → tp i ≤ 600) (hB : B ≤ n) : (pEnd tk tp tv (B, 0, pv) outR).1 = (rEnd tk tp tv (B, 0, outC)).2.1 ∧ ((rEnd tk tp tv (B, 0, outC)).2.1 = 0 → (rEnd tk tp tv (B, 0, outC)).1 = (pEnd tk tp tv (B, 0, pv) outR).2.1 ∧ ∃ cs, (pEnd tk tp tv (B, 0, pv) outR).2.2.1 = outR ++ (cs ++ [(0, 0)]) ∧ (pEnd tk tp tv (B, 0, pv) outR).2.2.2 = (pv, cs) ∧ (rEnd tk tp tv (B, 0, outC)).2.2 = outC ++ cs) := by
  unfold pEnd pBody rEnd
  dsimp only
  by_cases h5 : tk B = 5
  · have hlt := lt_of_tk hn hB h5 (by decide)
    rw [pTake_y h5, rTake_y h5]
    dsimp only
    have hd := run_desc (tv := tv) hn (show n < 602 by omega) htp hn6 (B + 1) outR hlt
    have hR : rAnds tk tp tv 600 6 0 (B + 1, 0, outR) = sPre outR (rAnds tk tp tv 600 6 0 (B + 1, 0, [])) := by
      have := nt_ands tk tp tv 600 6 0 outR (B + 1, 0, [])
      rw [show sPre outR (B + 1, 0, []) = (B + 1, 0, outR) by unfold sPre; rw [List.append_nil]] at this
      exact this
    have hC : rAnds tk tp tv 600 6 0 (B + 1, 0, outC) = sPre outC (rAnds tk tp tv 600 6 0 (B + 1, 0, [])) := by
      have := nt_ands tk tp tv 600 6 0 outC (B + 1, 0, [])
      rw [show sPre outC (B + 1, 0, []) = (B + 1, 0, outC) by unfold sPre; rw [List.append_nil]] at this
      exact this
    rw [hR] at hd
    rw [hC]
    generalize rAnds tk tp tv 600 6 0 (B + 1, 0, []) = z at hd ⊢
    generalize pRun tk tp tv 602 (B + 1, 0, outR, 0, fun _ => 0, fun _ => 0, fun _ => 0) = y at hd ⊢
    obtain ⟨zA, zf, zo⟩ := z
    obtain ⟨h1, h2⟩ := hd
    unfold sPre at h1 h2 ⊢
    dsimp only at h1 h2 ⊢
    by_cases hz : zf = 0
    · obtain ⟨h3, h4⟩ := h2 hz
      subst hz
      rw [h1, h3, h4]
      unfold rTake
      dsimp only
      refine ⟨rfl, fun _ => ⟨rfl, zo, by rw [List.append_assoc], by rw [List.drop_left], rfl⟩⟩
    · rw [h1, pTake_w hz]
      rw [rTake_f (s := (zA, zf, outC ++ zo)) hz]
      exact ⟨rfl, fun q => absurd q hz⟩
  · have hne := fltp_ne (tp := tp) (k := 1) (A := B) (by decide) (by decide) (htp B hB)
    rw [pTake_n h5, rTake_n h5]
    dsimp only
    rw [show (602 : Nat) = 601 + 1 from rfl, pRun_e, if_neg hne]
    dsimp only
    rw [pTake_w hne, rAnds_f hne, rTake_f hne]
    exact ⟨rfl, fun q => absurd q hne⟩
theorem line_eq {tk tp tv : Nat → Nat} {n A k : Nat} (outR outC : List (Nat × Int32)) (hn : tk n = 0) (hn6 : n ≤ 600) (htp : ∀ i, i ≤ n → tp i ≤ 600) (hA : A ≤ n) : (pLine tk tp tv A k outR).1 = (if tk A = 3 ∧ k = 16 then fltp tp 5 A else (rLine tk tp tv A outC).2.1) ∧ ((pLine tk tp tv A k outR).1 = 0 → tk A = 3 ∧ k ≠ 16 ∧ (rLine tk tp tv A outC).1 = (pLine tk tp tv A k outR).2.1 ∧ ∃ cs, (pLine tk tp tv A k outR).2.2.1 = outR ++ (cs ++ [(0, 0)]) ∧ (pLine tk tp tv A k outR).2.2.2 = (rWp tk tv (A + 1), cs) ∧ (rLine tk tp tv A outC).2.2 = outC ++ cs ∧ (rWp tk tv (A + 1) = -1 ∨ ∃ j, j < 6 ∧ rWp tk tv (A + 1) = nI j)) := by
  unfold pLine rLine
  by_cases e : tk A = 3
  · have hlt := lt_of_tk hn hA e (by decide)
    rw [if_pos e, rTake_y e]
    by_cases e2 : k = 16
    · rw [if_pos e2, if_pos ⟨e, e2⟩]
      exact ⟨rfl, fun q => absurd q (fltp_ne (by decide) (by decide) (htp A hA))⟩
    · rw [if_neg e2, if_neg (fun q => e2 q.2), rWh_e, if_pos (show (0 : Int32) = 0 from rfl)]
      by_cases e4 : tk (A + 1) = 4
      · have hlt2 := lt_of_tk hn (show A + 1 ≤ n by omega) e4 (by decide)
        rw [if_pos (Or.inl e4)]
        have hp : pHead tk tp tv (A + 1) = (A + 1 + 1, 0, -1) := by unfold pHead; rw [if_pos e4]
        have hw : rWp tk tv (A + 1) = -1 := by unfold rWp; rw [if_pos e4]
        rw [hp, hw]
        obtain ⟨t1, t2⟩ := tail_eq (tv := tv) (pv := -1) outR outC hn hn6 htp (show A + 1 + 1 ≤ n by omega)
        refine ⟨t1, fun q => ?_⟩
        rw [t1] at q
        obtain ⟨u1, cs, u2, u3, u4⟩ := t2 q
        exact ⟨e, e2, u1, cs, u2, u3, u4, Or.inl rfl⟩
      · by_cases e5 : tk (A + 1) = 2
        · have hlt2 := lt_of_tk hn (show A + 1 ≤ n by omega) e5 (by decide)
          by_cases e6 : tv (A + 1) ≤ 5
          · rw [if_pos (Or.inr ⟨e5, e6⟩)]
            have hp : pHead tk tp tv (A + 1) = (A + 1 + 1, 0, nI (tv (A + 1))) := by unfold pHead; rw [if_neg e4, if_pos e5, if_pos e6]
            have hw : rWp tk tv (A + 1) = nI (tv (A + 1)) := by unfold rWp; rw [if_neg e4]
            rw [hp, hw]
            obtain ⟨t1, t2⟩ := tail_eq (tv := tv) (pv := nI (tv (A + 1))) outR outC hn hn6 htp (show A + 1 + 1 ≤ n by omega)
            refine ⟨t1, fun q => ?_⟩
            rw [t1] at q
            obtain ⟨u1, cs, u2, u3, u4⟩ := t2 q
            exact ⟨e, e2, u1, cs, u2, u3, u4, Or.inr ⟨_, by omega, rfl⟩⟩
          · have hne := fltp_ne (tp := tp) (k := 4) (A := A + 1) (by decide) (by decide) (htp (A + 1) hlt)
            rw [if_neg (fun q => by omega), if_pos e5]
            have hp : pHead tk tp tv (A + 1) = (A + 1 + 1, fltp tp 4 (A + 1), -1) := by unfold pHead; rw [if_neg e4, if_pos e5, if_neg e6]
            rw [hp, pEnd_f hne, rEnd_f (s := (A + 1, fltp tp 4 (A + 1), outC)) hne]
            exact ⟨rfl, fun q => absurd q hne⟩
        · have hne := fltp_ne (tp := tp) (k := 1) (A := A + 1) (by decide) (by decide) (htp (A + 1) hlt)
          rw [if_neg (fun q => by omega), if_neg e5]
          have hp : pHead tk tp tv (A + 1) = (A + 1 + 1, fltp tp 1 (A + 1), -1) := by unfold pHead; rw [if_neg e4, if_neg e5]
          rw [hp, pEnd_f hne, rEnd_f (s := (A + 1, fltp tp 1 (A + 1), outC)) hne]
          exact ⟨rfl, fun q => absurd q hne⟩
  · have hne := fltp_ne (tp := tp) (k := 1) (A := A) (by decide) (by decide) (htp A hA)
    rw [if_neg e, if_neg (fun q => e q.1), rTake_n e, rWh_e, if_neg hne, rEnd_f (s := (A, fltp tp 1 A, outC)) hne]
    exact ⟨rfl, fun q => absurd q hne⟩
