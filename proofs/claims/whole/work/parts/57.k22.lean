/-! the place never passes the end -/
def Lb (n : Nat) (p : RS → RS) : Prop := ∀ s : RS, s.1 ≤ n → (p s).1 ≤ n
theorem rTake_le {n c : Nat} {tk tp : Nat → Nat} (hn : tk n = 0) (hc : c ≠ 0) : Lb n (rTake tk tp c) := by
  intro s hs
  unfold rTake pTake
  by_cases e : s.2.1 = 0
  · rw [if_pos e]
    by_cases e2 : tk s.1 = c
    · rw [if_pos e2]
      exact lt_of_tk hn hs e2 hc
    · rw [if_neg e2]; exact hs
  · rw [if_neg e]; exact hs
theorem lb_part {n : Nat} {tk tp tv : Nat → Nat} {ands : RS → RS} (hn : tk n = 0) (h : Lb n ands) (d : Nat) : Lb n (rPart tk tp tv ands d) := by
  intro s hs
  obtain ⟨A, f, o⟩ := s
  dsimp only at hs
  rw [rPart_e]
  by_cases e0 : f = 0
  · rw [if_pos e0]
    by_cases e1 : tk A = 2 ∨ tk A = 40 ∨ (7 ≤ tk A ∧ tk A ≤ 14)
    · have hlt := lt_of_tk hn hs rfl (show tk A ≠ 0 by omega)
      rw [if_pos e1]
      by_cases e2 : 5 ≤ d
      · rw [if_pos e2]; exact hs
      · rw [if_neg e2]
        by_cases e3 : tk A = 40
        · rw [if_pos e3]
          exact rTake_le hn (by decide) _ (h (A + 1, f, o) hlt)
        · rw [if_neg e3]
          by_cases e4 : tk A = 2
          · rw [if_pos e4]; exact hlt
          · rw [if_neg e4]; exact hlt
    · rw [if_neg e1]; exact hs
  · rw [if_neg e0]; exact hs
theorem lb_sumL {n : Nat} {tk : Nat → Nat} {part : RS → RS} (hn : tk n = 0) (h : Lb n part) : ∀ m, Lb n (rSumL tk part m)
  | 0 => fun _ hs => hs
  | m + 1 => by
    intro s hs
    rw [rSumL_e]
    by_cases c : s.2.1 = 0 ∧ (tk s.1 = 43 ∨ tk s.1 = 45)
    · rw [if_pos c]
      have hlt := lt_of_tk hn hs rfl (show tk s.1 ≠ 0 by omega)
      exact lb_sumL hn h m _ (h (s.1 + 1, s.2) hlt)
    · rw [if_neg c]; exact hs
theorem lb_sum {n : Nat} {tk : Nat → Nat} {part : RS → RS} (hn : tk n = 0) (h : Lb n part) (N : Nat) : Lb n (rSum tk N part) := fun s hs => lb_sumL hn h N _ (h s hs)
theorem lb_test {n : Nat} {tk : Nat → Nat} {sum : RS → RS} (hn : tk n = 0) (h : Lb n sum) : Lb n (rTest tk sum) := by
  intro s hs
  unfold rTest
  have h1 := h s hs
  by_cases c : (sum s).2.1 = 0 ∧ (tk (sum s).1 = 60 ∨ tk (sum s).1 = 61)
  · rw [if_pos c]
    have hlt := lt_of_tk hn h1 rfl (show tk (sum s).1 ≠ 0 by omega)
    exact h ((sum s).1 + 1, (sum s).2) hlt
  · rw [if_neg c]; exact h1
theorem lb_andsL {n : Nat} {tk : Nat → Nat} {test : RS → RS} (hn : tk n = 0) (h : Lb n test) : ∀ m, Lb n (rAndsL tk test m)
  | 0 => fun _ hs => hs
  | m + 1 => by
    intro s hs
    rw [rAndsL_e]
    by_cases c : s.2.1 = 0 ∧ tk s.1 = 6
    · rw [if_pos c]
      have hlt := lt_of_tk hn hs rfl (show tk s.1 ≠ 0 by omega)
      exact lb_andsL hn h m _ (h (s.1 + 1, s.2) hlt)
    · rw [if_neg c]; exact hs
theorem lb_ands {n : Nat} {tk : Nat → Nat} (tp tv : Nat → Nat) (hn : tk n = 0) (N : Nat) : ∀ k d, Lb n (rAnds tk tp tv N k d)
  | 0, _ => fun _ hs => hs
  | k + 1, d => by
    have hT : Lb n (rTest tk (rSum tk N (rPart tk tp tv (rAnds tk tp tv N k (d + 1)) d))) := lb_test hn (lb_sum hn (lb_part hn (lb_ands tp tv hn N k (d + 1)) d) N)
    intro s hs
    exact lb_andsL hn hT N _ (hT s hs)
