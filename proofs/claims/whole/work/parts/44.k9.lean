theorem partA {n : Nat} {tk tp tv : Nat → Nat} (hn : tk n = 0) (A : Nat) (out : List (Nat × Int32)) (d : Nat) (sW gW aW : Nat → Nat) (hA : A ≤ n) (hd : d ≤ 5) : A ≤ (pPart tk tp tv (A, 0, out, d, sW, gW, aW)).1.1 ∧ (pPart tk tp tv (A, 0, out, d, sW, gW, aW)).1.1 ≤ n ∧ (pPart tk tp tv (A, 0, out, d, sW, gW, aW)).1.2.2.2.1 ≤ 5 ∧ ((pPart tk tp tv (A, 0, out, d, sW, gW, aW)).2 = true → A < (pPart tk tp tv (A, 0, out, d, sW, gW, aW)).1.1 ∧ (pPart tk tp tv (A, 0, out, d, sW, gW, aW)).1.2.1 = 0) := by
  rw [pPart_e]
  by_cases e0 : tk A = 2 ∨ tk A = 40 ∨ (7 ≤ tk A ∧ tk A ≤ 14)
  · have hlt := lt_of_tk hn hA rfl (show tk A ≠ 0 by omega)
    rw [if_pos e0]
    by_cases e1 : d = 5
    · rw [if_pos e1]
      exact ⟨Nat.le_refl _, hA, hd, fun q => (by cases q)⟩
    · rw [if_neg e1]
      by_cases e2 : tk A = 40
      · rw [if_pos e2]
        exact ⟨Nat.le_succ _, hlt, by dsimp only; omega, fun _ => ⟨Nat.lt_succ_self _, rfl⟩⟩
      · rw [if_neg e2]
        by_cases e3 : tk A = 2
        · rw [if_pos e3]
          exact ⟨Nat.le_succ _, hlt, hd, fun q => (by cases q)⟩
        · rw [if_neg e3]
          exact ⟨Nat.le_succ _, hlt, hd, fun q => (by cases q)⟩
  · rw [if_neg e0]
    exact ⟨Nat.le_refl _, hA, hd, fun q => (by cases q)⟩
theorem gobM {n : Nat} {tk tp : Nat → Nat} (hn : tk n = 0) (m : Nat) (s : MP) (hA : s.1 ≤ n) : s.1 ≤ (pGob tk tp m s).1.1 ∧ (pGob tk tp m s).1.1 ≤ n ∧ (pGob tk tp m s).1.2.2.2.1 ≤ s.2.2.2.1 ∧ ((pGob tk tp m s).2 = true → s.1 < (pGob tk tp m s).1.1 ∧ (pGob tk tp m s).1.2.1 = 0) := by
  obtain ⟨A, f, out, d, sW, gW, aW⟩ := s
  exact gobA hn m A f out d sW gW aW hA
theorem partM {n : Nat} {tk tp tv : Nat → Nat} (hn : tk n = 0) (s : MP) (hf : s.2.1 = 0) (hA : s.1 ≤ n) (hd : s.2.2.2.1 ≤ 5) : s.1 ≤ (pPart tk tp tv s).1.1 ∧ (pPart tk tp tv s).1.1 ≤ n ∧ (pPart tk tp tv s).1.2.2.2.1 ≤ 5 ∧ ((pPart tk tp tv s).2 = true → s.1 < (pPart tk tp tv s).1.1 ∧ (pPart tk tp tv s).1.2.1 = 0) := by
  obtain ⟨A, f, out, d, sW, gW, aW⟩ := s
  dsimp only at hf
  subst hf
  exact partA hn A out d sW gW aW hA hd
theorem runM {n : Nat} {tk tp tv : Nat → Nat} (hn : tk n = 0) : ∀ (m m2 : Nat) (s : MP), n - s.1 < m → n - s.1 < m2 → s.1 ≤ n → s.2.2.2.1 ≤ 5 → pRun tk tp tv m s = pRun tk tp tv m2 s := by
  intro m
  induction m with
  | zero => intro m2 s h; omega
  | succ m ih =>
  intro m2 s h1 h2 hA hd
  obtain ⟨k, rfl⟩ : ∃ k, m2 = k + 1 := ⟨m2 - 1, by omega⟩
  rw [pRun_e tk tp tv m s, pRun_e tk tp tv k s]
  by_cases ef : s.2.1 = 0
  · rw [if_pos ef, if_pos ef]
    obtain ⟨a1, a2, a3, a4⟩ := partM (tp := tp) (tv := tv) hn s ef hA hd
    by_cases c1 : (pPart tk tp tv s).2 = true
    · rw [if_pos c1, if_pos c1]
      have := (a4 c1).1
      exact ih k _ (by omega) (by omega) a2 a3
    · rw [if_neg c1, if_neg c1]
      obtain ⟨b1, b2, b3, b4⟩ := gobM (tp := tp) hn 6 (pPart tk tp tv s).1 a2
      by_cases c2 : (pGob tk tp 6 (pPart tk tp tv s).1).2 = true
      · rw [if_pos c2, if_pos c2]
        have := (b4 c2).1
        exact ih k _ (by omega) (by omega) b2 (by omega)
      · rw [if_neg c2, if_neg c2]
  · rw [if_neg ef, if_neg ef]
def pR9 (tk tp tv : Nat → Nat) (F : Nat) (s : MP) : MP := pRun tk tp tv F s
def Gx (tk tp tv : Nat → Nat) (F : Nat) (r : MP × Bool) : MP := if r.2 = true then pR9 tk tp tv F r.1 else r.1
theorem Gx_t (tk tp tv : Nat → Nat) (F : Nat) (s : MP) : Gx tk tp tv F (s, true) = pR9 tk tp tv F s := rfl
theorem Gx_n (tk tp tv : Nat → Nat) (F : Nat) (s : MP) : Gx tk tp tv F (s, false) = s := rfl
theorem pR9_f (tk tp tv : Nat → Nat) (F : Nat) (s : MP) (hF : 0 < F) (h : ¬ s.2.1 = 0) : pR9 tk tp tv F s = s := by
  obtain ⟨m, rfl⟩ : ∃ m, F = m + 1 := ⟨F - 1, by omega⟩
  unfold pR9
  rw [pRun_e tk tp tv m s, if_neg h]
/-- one part, and what goes on behind it -/
theorem pR9_e {n F : Nat} {tk tp tv : Nat → Nat} (hn : tk n = 0) (hF : n < F) (s : MP) (hf : s.2.1 = 0) (hA : s.1 ≤ n) (hd : s.2.2.2.1 ≤ 5) : pR9 tk tp tv F s = if (pPart tk tp tv s).2 = true then pR9 tk tp tv F (pPart tk tp tv s).1 else Gx tk tp tv F (pGob tk tp 6 (pPart tk tp tv s).1) := by
  unfold pR9 Gx
  rw [runM hn F (n + 1 - s.1 + 1) s (by omega) (by omega) hA hd, pRun_e tk tp tv _ s, if_pos hf]
  obtain ⟨a1, a2, a3, a4⟩ := partM (tp := tp) (tv := tv) hn s hf hA hd
  by_cases c1 : (pPart tk tp tv s).2 = true
  · rw [if_pos c1, if_pos c1]
    have := (a4 c1).1
    exact runM hn _ F _ (by omega) (by omega) a2 a3
  · rw [if_neg c1, if_neg c1]
    obtain ⟨b1, b2, b3, b4⟩ := gobM (tp := tp) hn 6 (pPart tk tp tv s).1 a2
    by_cases c2 : (pGob tk tp 6 (pPart tk tp tv s).1).2 = true
    · rw [if_pos c2, if_pos c2]
      have := (b4 c2).1
      unfold pR9
      exact runM hn _ F _ (by omega) (by omega) b2 (by omega)
    · rw [if_neg c2, if_neg c2]
/-! by descent -/
abbrev RS : Type := Nat × Int32 × List (Nat × Int32)
def rTake (tk tp : Nat → Nat) (c : Nat) (s : RS) : RS := ((pTake tk tp c s.1 s.2.1).1, (pTake tk tp c s.1 s.2.1).2, s.2.2)
def rPut (c : Nat) (a : Int32) (s : RS) : RS := (s.1, s.2.1, s.2.2 ++ [(c, a)])
def rPart (tk tp tv : Nat → Nat) (ands : RS → RS) (d : Nat) (s : RS) : RS :=
  if s.2.1 = 0 then (if tk s.1 = 2 ∨ tk s.1 = 40 ∨ (7 ≤ tk s.1 ∧ tk s.1 ≤ 14) then (if 5 ≤ d then (s.1, fltp tp 5 s.1, s.2.2) else if tk s.1 = 40 then rTake tk tp 41 (ands (s.1 + 1, s.2)) else if tk s.1 = 2 then rPut 1 (nI (tv s.1)) (s.1 + 1, s.2) else rPut 2 (nI (tk s.1 - 7)) (s.1 + 1, s.2)) else (s.1, fltp tp 1 s.1, s.2.2)) else s
def rSumL (tk : Nat → Nat) (part : RS → RS) : Nat → RS → RS
  | 0, s => s
  | m + 1, s => if s.2.1 = 0 ∧ (tk s.1 = 43 ∨ tk s.1 = 45) then rSumL tk part m (rPut (if tk s.1 = 43 then 3 else 4) 0 (part (s.1 + 1, s.2))) else s
def rSum (tk : Nat → Nat) (N : Nat) (part : RS → RS) (s : RS) : RS := rSumL tk part N (part s)
def rTest (tk : Nat → Nat) (sum : RS → RS) (s : RS) : RS := if (sum s).2.1 = 0 ∧ (tk (sum s).1 = 60 ∨ tk (sum s).1 = 61) then rPut (if tk (sum s).1 = 60 then 5 else 6) 0 (sum ((sum s).1 + 1, (sum s).2)) else sum s
def rAndsL (tk : Nat → Nat) (test : RS → RS) : Nat → RS → RS
  | 0, s => s
  | m + 1, s => if s.2.1 = 0 ∧ tk s.1 = 6 then rAndsL tk test m (rPut 7 0 (test (s.1 + 1, s.2))) else s
def rAnds (tk tp tv : Nat → Nat) (N : Nat) : Nat → Nat → RS → RS
  | 0, _, s => s
  | k + 1, d, s => rAndsL tk (rTest tk (rSum tk N (rPart tk tp tv (rAnds tk tp tv N k (d + 1)) d))) N (rTest tk (rSum tk N (rPart tk tp tv (rAnds tk tp tv N k (d + 1)) d)) s)
/-- the waits agree up to depth d -/
def wEq (d : Nat) (sW gW aW s2 g2 a2 : Nat → Nat) : Prop := ∀ j, j ≤ d → s2 j = sW j ∧ g2 j = gW j ∧ a2 j = aW j
theorem wEq.tr {d : Nat} {sW gW aW s2 g2 a2 s3 g3 a3 : Nat → Nat} (h : wEq d sW gW aW s2 g2 a2) (h2 : wEq d s2 g2 a2 s3 g3 a3) : wEq d sW gW aW s3 g3 a3 := fun j hj => ⟨(h2 j hj).1.trans (h j hj).1, (h2 j hj).2.1.trans (h j hj).2.1, (h2 j hj).2.2.trans (h j hj).2.2⟩
/-- what a piece p of the descent at depth d says of the machine: from a state x it stands then at the step q, or it has p's fault -/
def Cl (tk tp tv : Nat → Nat) (F n d : Nat) (q : MP → MP × Bool) (A : Nat) (sW gW aW : Nat → Nat) (x : MP) (r : RS) : Prop :=
  (r.2.1 = 0 → r.1 ≤ n ∧ A ≤ r.1 ∧ ∃ s2 g2 a2, wEq d sW gW aW s2 g2 a2 ∧ x = Gx tk tp tv F (q (r.1, 0, r.2.2, d, s2, g2, a2))) ∧ (¬ r.2.1 = 0 → x.2.1 = r.2.1)
