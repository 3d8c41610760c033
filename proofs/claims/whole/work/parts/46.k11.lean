theorem clTest {n F : Nat} {tk tp tv : Nat → Nat} (hn : tk n = 0) (hF : n < F) (htp : ∀ i, i ≤ n → tp i ≤ 600) {d : Nat} {sum : RS → RS} (hS : ∀ (A : Nat) (out : List (Nat × Int32)) (sW gW aW : Nat → Nat), A ≤ n → sW d = 0 → Cl tk tp tv F n d (q96 tk tp (pGob tk tp 5)) (A + 1) sW gW aW (pR9 tk tp tv F (A, 0, out, d, sW, gW, aW)) (sum (A, 0, out))) : ∀ (A : Nat) (out : List (Nat × Int32)) (sW gW aW : Nat → Nat), A ≤ n → sW d = 0 → gW d = 0 → Cl tk tp tv F n d (q189 tk tp (pGob tk tp 5)) (A + 1) sW gW aW (pR9 tk tp tv F (A, 0, out, d, sW, gW, aW)) (rTest tk sum (A, 0, out)) := by
  intro A out sW gW aW hA h0 hg0
  unfold rTest
  have hc := hS A out sW gW aW hA h0
  generalize pR9 tk tp tv F (A, 0, out, d, sW, gW, aW) = x at hc ⊢
  generalize sum (A, 0, out) = r at hc ⊢
  obtain ⟨A1, f1, o1⟩ := r
  have eA : (A1, f1, o1).1 = A1 := rfl
  have eB : (A1, f1, o1).2.1 = f1 := rfl
  have eC : (A1, f1, o1).2 = (f1, o1) := rfl
  rw [eA, eB, eC]
  by_cases ef : f1 = 0
  · obtain ⟨h1, h2, s2, g2, a2, h3, h4⟩ := hc.1 ef
    subst ef
    dsimp only at h1 h2 h4
    have hs2 : s2 d = 0 := by rw [(h3 d (Nat.le_refl _)).1, h0]
    have hg2 : g2 d = 0 := by rw [(h3 d (Nat.le_refl _)).2.1, hg0]
    rw [q96_e, if_pos hg2] at h4
    by_cases e60 : tk A1 = 60
    · have hlt := lt_of_tk hn h1 e60 (by decide)
      rw [if_pos e60] at h4
      rw [if_pos ⟨rfl, Or.inl e60⟩, if_pos e60]
      · rw [Gx_t] at h4
        have hc2 := hS (A1 + 1) o1 s2 (va_up g2 d 5) a2 (by omega) hs2
        rw [← h4] at hc2
        generalize sum (A1 + 1, 0, o1) = r2 at hc2 ⊢
        obtain ⟨A2, f2, o2⟩ := r2
        unfold rPut
        dsimp only at hc2 ⊢
        by_cases ef2 : f2 = 0
        · obtain ⟨k1, k2, s3, g3, a3, k3, k4⟩ := hc2.1 ef2
          subst ef2
          dsimp only at k1 k2 k4
          have hg3 : g3 d = 5 := by rw [(k3 d (Nat.le_refl _)).2.1, va_up_self]
          rw [q96_e, if_neg (by rw [hg3]; decide), hg3] at k4
          exact Cl_o rfl k1 (by dsimp only; omega) (h3.tr (wEq_g k3 hg2)) k4
        · exact Cl_f ef2 (hc2.2 ef2)
    · rw [if_neg e60] at h4
      by_cases e61 : tk A1 = 61
      · have hlt := lt_of_tk hn h1 e61 (by decide)
        rw [if_pos e61] at h4
        rw [if_pos ⟨rfl, Or.inr e61⟩, if_neg e60]
        rw [Gx_t] at h4
        have hc2 := hS (A1 + 1) o1 s2 (va_up g2 d 6) a2 (by omega) hs2
        rw [← h4] at hc2
        generalize sum (A1 + 1, 0, o1) = r2 at hc2 ⊢
        obtain ⟨A2, f2, o2⟩ := r2
        unfold rPut
        dsimp only at hc2 ⊢
        by_cases ef2 : f2 = 0
        · obtain ⟨k1, k2, s3, g3, a3, k3, k4⟩ := hc2.1 ef2
          subst ef2
          dsimp only at k1 k2 k4
          have hg3 : g3 d = 6 := by rw [(k3 d (Nat.le_refl _)).2.1, va_up_self]
          rw [q96_e, if_neg (by rw [hg3]; decide), hg3] at k4
          exact Cl_o rfl k1 (by dsimp only; omega) (h3.tr (wEq_g k3 hg2)) k4
        · exact Cl_f ef2 (hc2.2 ef2)
      · rw [if_neg e61] at h4
        rw [if_neg (fun z => z.2.elim e60 e61)]
        exact Cl_o rfl h1 h2 h3 h4
  · rw [if_neg (fun z => ef z.1)]
    exact Cl_f ef (hc.2 ef)
theorem clAndsL {n F : Nat} {tk tp tv : Nat → Nat} (hn : tk n = 0) (hF : n < F) (htp : ∀ i, i ≤ n → tp i ≤ 600) {d : Nat} {test : RS → RS} (hT : ∀ (A : Nat) (out : List (Nat × Int32)) (sW gW aW : Nat → Nat), A ≤ n → sW d = 0 → gW d = 0 → Cl tk tp tv F n d (q189 tk tp (pGob tk tp 5)) (A + 1) sW gW aW (pR9 tk tp tv F (A, 0, out, d, sW, gW, aW)) (test (A, 0, out))) : ∀ (m A : Nat) (out : List (Nat × Int32)) (sW gW aW : Nat → Nat), n - A < m → A ≤ n → sW d = 0 → gW d = 0 → aW d = 0 → Cl tk tp tv F n d (q249 tk tp (pGob tk tp 5)) A sW gW aW (Gx tk tp tv F (q218 tk tp (pGob tk tp 5) (A, 0, out, d, sW, gW, aW))) (rAndsL tk test m (A, 0, out)) := by
  intro m
  induction m with
  | zero => intro A out sW gW aW h; omega
  | succ m ih =>
  intro A out sW gW aW hm hA h0 hg0 ha0
  rw [q218_e, rAndsL_e]
  have eA : (A, (0 : Int32), out).1 = A := rfl
  have eB : (A, (0 : Int32), out).2.1 = 0 := rfl
  rw [eA]
  by_cases e6 : tk A = 6
  · have hlt := lt_of_tk hn hA e6 (by decide)
    rw [if_pos e6, if_pos ⟨eB, e6⟩, Gx_t]
    have hc := hT (A + 1) out sW gW (va_up aW d 7) (by omega) h0 hg0
    generalize pR9 tk tp tv F (A + 1, 0, out, d, sW, gW, va_up aW d 7) = x at hc ⊢
    generalize test (A + 1, 0, out) = r at hc ⊢
    obtain ⟨A1, f1, o1⟩ := r
    unfold rPut
    dsimp only at hc ⊢
    by_cases ef : f1 = 0
    · obtain ⟨h1, h2, s2, g2, a2, h3, h4⟩ := hc.1 ef
      subst ef
      dsimp only at h1 h2 h4
      have hs2 : s2 d = 0 := by rw [(h3 d (Nat.le_refl _)).1, h0]
      have hg2 : g2 d = 0 := by rw [(h3 d (Nat.le_refl _)).2.1, hg0]
      have ha2 : a2 d = 7 := by rw [(h3 d (Nat.le_refl _)).2.2, va_up_self]
      rw [q189_e, if_neg (by rw [ha2]; decide)] at h4
      rw [h4]
      exact Cl_w (ih A1 (o1 ++ [(7, 0)]) s2 g2 (va_up a2 d 0) (by omega) h1 hs2 hg2 (va_up_self _ _ _)) (by omega) (wEq_a h3 ha0)
    · rw [rAndsL_f (by exact ef)]
      exact Cl_f ef (hc.2 ef)
  · rw [if_neg e6, if_neg (fun z => e6 z.2)]
    exact Cl_o rfl hA (Nat.le_refl _) (wEq.rf _ _ _ _) rfl
theorem clAnds {n F : Nat} {tk tp tv : Nat → Nat} (hn : tk n = 0) (hF : n < F) (htp : ∀ i, i ≤ n → tp i ≤ 600) {N : Nat} (hN : n ≤ N) : ∀ (k d : Nat), d + k = 6 → 1 ≤ k → ∀ (A : Nat) (out : List (Nat × Int32)) (sW gW aW : Nat → Nat), A ≤ n → sW d = 0 → gW d = 0 → aW d = 0 → Cl tk tp tv F n d (q249 tk tp (pGob tk tp 5)) A sW gW aW (pR9 tk tp tv F (A, 0, out, d, sW, gW, aW)) (rAnds tk tp tv N k d (A, 0, out)) := by
  intro k
  induction k with
  | zero => intro d hk h1; omega
  | succ k ih =>
  intro d hk hk1 A out sW gW aW hA h0 hg0 ha0
  have hP := clPart (tv := tv) (ands := rAnds tk tp tv N k (d + 1)) hn hF htp (show d ≤ 5 by omega) (fun hd5 A out sW gW aW hA h0 hg0 ha0 => ih (d + 1) (by omega) (by omega) A out sW gW aW hA h0 hg0 ha0)
  have hT := clTest hn hF htp (clSum hn hF htp hN hP)
  show Cl tk tp tv F n d (q249 tk tp (pGob tk tp 5)) A sW gW aW (pR9 tk tp tv F (A, 0, out, d, sW, gW, aW)) (rAndsL tk (rTest tk (rSum tk N (rPart tk tp tv (rAnds tk tp tv N k (d + 1)) d))) N (rTest tk (rSum tk N (rPart tk tp tv (rAnds tk tp tv N k (d + 1)) d)) (A, 0, out)))
  have hc := hT A out sW gW aW hA h0 hg0
  generalize rTest tk (rSum tk N (rPart tk tp tv (rAnds tk tp tv N k (d + 1)) d)) = test at hT hc ⊢
  generalize pR9 tk tp tv F (A, 0, out, d, sW, gW, aW) = x at hc ⊢
  generalize test (A, 0, out) = r at hc ⊢
  obtain ⟨A1, f1, o1⟩ := r
  by_cases ef : f1 = 0
  · obtain ⟨h1, h2, s2, g2, a2, h3, h4⟩ := hc.1 ef
    subst ef
    dsimp only at h1 h2 h4
    have hs2 : s2 d = 0 := by rw [(h3 d (Nat.le_refl _)).1, h0]
    have hg2 : g2 d = 0 := by rw [(h3 d (Nat.le_refl _)).2.1, hg0]
    have ha2 : a2 d = 0 := by rw [(h3 d (Nat.le_refl _)).2.2, ha0]
    rw [q189_e, if_pos ha2] at h4
    rw [h4]
    exact Cl_w (clAndsL hn hF htp hT N A1 o1 s2 g2 a2 (by omega) h1 hs2 hg2 ha2) (by omega) h3
  · rw [rAndsL_f (by exact ef)]
    exact Cl_f ef (hc.2 ef)
/-- a line's codes by descent are the reference's -/
theorem run_desc {n F : Nat} {tk tp tv : Nat → Nat} (hn : tk n = 0) (hF : n < F) (htp : ∀ i, i ≤ n → tp i ≤ 600) {N : Nat} (hN : n ≤ N) (A : Nat) (out : List (Nat × Int32)) (hA : A ≤ n) : (pRun tk tp tv F (A, 0, out, 0, fun _ => 0, fun _ => 0, fun _ => 0)).2.1 = (rAnds tk tp tv N 6 0 (A, 0, out)).2.1 ∧ ((rAnds tk tp tv N 6 0 (A, 0, out)).2.1 = 0 → (pRun tk tp tv F (A, 0, out, 0, fun _ => 0, fun _ => 0, fun _ => 0)).1 = (rAnds tk tp tv N 6 0 (A, 0, out)).1 ∧ (pRun tk tp tv F (A, 0, out, 0, fun _ => 0, fun _ => 0, fun _ => 0)).2.2.1 = (rAnds tk tp tv N 6 0 (A, 0, out)).2.2) := by
  have hc := clAnds (tv := tv) hn hF htp hN 6 0 rfl (by omega) A out (fun _ => 0) (fun _ => 0) (fun _ => 0) hA rfl rfl rfl
  unfold pR9 at hc
  generalize pRun tk tp tv F (A, 0, out, 0, fun _ => 0, fun _ => 0, fun _ => 0) = x at hc ⊢
  generalize rAnds tk tp tv N 6 0 (A, 0, out) = r at hc ⊢
  by_cases ef : r.2.1 = 0
  · obtain ⟨h1, h2, s2, g2, a2, h3, h4⟩ := hc.1 ef
    rw [q249_e, if_pos rfl, Gx_n] at h4
    rw [h4, ef]
    exact ⟨rfl, fun _ => ⟨rfl, rfl⟩⟩
  · exact ⟨hc.2 ef, fun z => absurd z ef⟩
