/-! the codes before a line don't matter -/
def sPre (pre : List (Nat × Int32)) (s : RS) : RS := (s.1, s.2.1, pre ++ s.2.2)
def Nt (p : RS → RS) : Prop := ∀ pre s, p (sPre pre s) = sPre pre (p s)
theorem rPut_pre (c : Nat) (a : Int32) (pre : List (Nat × Int32)) (s : RS) : rPut c a (sPre pre s) = sPre pre (rPut c a s) := by
  unfold rPut sPre
  dsimp only
  rw [List.append_assoc]
theorem rTake_pre (tk tp : Nat → Nat) (c : Nat) (pre : List (Nat × Int32)) (s : RS) : rTake tk tp c (sPre pre s) = sPre pre (rTake tk tp c s) := rfl
theorem rPart_e (tk tp tv : Nat → Nat) (ands : RS → RS) (d A : Nat) (f : Int32) (o : List (Nat × Int32)) : rPart tk tp tv ands d (A, f, o) = if f = 0 then (if tk A = 2 ∨ tk A = 40 ∨ (7 ≤ tk A ∧ tk A ≤ 14) then (if 5 ≤ d then (A, fltp tp 5 A, o) else if tk A = 40 then rTake tk tp 41 (ands (A + 1, f, o)) else if tk A = 2 then rPut 1 (nI (tv A)) (A + 1, f, o) else rPut 2 (nI (tk A - 7)) (A + 1, f, o)) else (A, fltp tp 1 A, o)) else (A, f, o) := rfl
theorem nt_part {tk tp tv : Nat → Nat} {ands : RS → RS} (h : Nt ands) (d : Nat) : Nt (rPart tk tp tv ands d) := by
  intro pre s
  obtain ⟨A, f, o⟩ := s
  show rPart tk tp tv ands d (A, f, pre ++ o) = sPre pre (rPart tk tp tv ands d (A, f, o))
  rw [rPart_e, rPart_e]
  by_cases e0 : f = 0
  · rw [if_pos e0, if_pos e0]
    by_cases e1 : tk A = 2 ∨ tk A = 40 ∨ (7 ≤ tk A ∧ tk A ≤ 14)
    · rw [if_pos e1, if_pos e1]
      by_cases e2 : 5 ≤ d
      · rw [if_pos e2, if_pos e2]
        rfl
      · rw [if_neg e2, if_neg e2]
        by_cases e3 : tk A = 40
        · rw [if_pos e3, if_pos e3]
          have := h pre (A + 1, f, o)
          rw [show (A + 1, f, pre ++ o) = sPre pre (A + 1, f, o) from rfl, this]
          rfl
        · rw [if_neg e3, if_neg e3]
          by_cases e4 : tk A = 2
          · rw [if_pos e4, if_pos e4]
            exact rPut_pre 1 _ pre (A + 1, f, o)
          · rw [if_neg e4, if_neg e4]
            exact rPut_pre 2 _ pre (A + 1, f, o)
    · rw [if_neg e1, if_neg e1]
      rfl
  · rw [if_neg e0, if_neg e0]
    rfl
theorem nt_sumL {tk : Nat → Nat} {part : RS → RS} (h : Nt part) : ∀ m, Nt (rSumL tk part m)
  | 0 => fun _ _ => rfl
  | m + 1 => by
    intro pre s
    rw [rSumL_e, rSumL_e]
    have e1 : (sPre pre s).1 = s.1 := rfl
    have e2 : (sPre pre s).2.1 = s.2.1 := rfl
    rw [e1, e2]
    by_cases c : s.2.1 = 0 ∧ (tk s.1 = 43 ∨ tk s.1 = 45)
    · rw [if_pos c, if_pos c, show (s.1 + 1, (sPre pre s).2) = sPre pre (s.1 + 1, s.2) from rfl, h, rPut_pre, nt_sumL h m]
    · rw [if_neg c, if_neg c]
theorem nt_sum {tk : Nat → Nat} {part : RS → RS} (h : Nt part) (N : Nat) : Nt (rSum tk N part) := by
  intro pre s
  unfold rSum
  rw [h, nt_sumL h N]
theorem nt_test {tk : Nat → Nat} {sum : RS → RS} (h : Nt sum) : Nt (rTest tk sum) := by
  intro pre s
  unfold rTest
  rw [h]
  have e1 : (sPre pre (sum s)).1 = (sum s).1 := rfl
  have e2 : (sPre pre (sum s)).2.1 = (sum s).2.1 := rfl
  rw [e1, e2]
  by_cases c : (sum s).2.1 = 0 ∧ (tk (sum s).1 = 60 ∨ tk (sum s).1 = 61)
  · rw [if_pos c, if_pos c, show ((sum s).1 + 1, (sPre pre (sum s)).2) = sPre pre ((sum s).1 + 1, (sum s).2) from rfl, h, rPut_pre]
  · rw [if_neg c, if_neg c]
theorem nt_andsL {tk : Nat → Nat} {test : RS → RS} (h : Nt test) : ∀ m, Nt (rAndsL tk test m)
  | 0 => fun _ _ => rfl
  | m + 1 => by
    intro pre s
    rw [rAndsL_e, rAndsL_e]
    have e1 : (sPre pre s).1 = s.1 := rfl
    have e2 : (sPre pre s).2.1 = s.2.1 := rfl
    rw [e1, e2]
    by_cases c : s.2.1 = 0 ∧ tk s.1 = 6
    · rw [if_pos c, if_pos c, show (s.1 + 1, (sPre pre s).2) = sPre pre (s.1 + 1, s.2) from rfl, h, rPut_pre, nt_andsL h m]
    · rw [if_neg c, if_neg c]
theorem nt_ands (tk tp tv : Nat → Nat) (N : Nat) : ∀ k d, Nt (rAnds tk tp tv N k d)
  | 0, _ => fun _ _ => rfl
  | k + 1, d => by
    intro pre s
    have hT : Nt (rTest tk (rSum tk N (rPart tk tp tv (rAnds tk tp tv N k (d + 1)) d))) := nt_test (nt_sum (nt_part (nt_ands tk tp tv N k (d + 1)) d) N)
    show rAndsL tk (rTest tk (rSum tk N (rPart tk tp tv (rAnds tk tp tv N k (d + 1)) d))) N (rTest tk (rSum tk N (rPart tk tp tv (rAnds tk tp tv N k (d + 1)) d)) (sPre pre s)) = sPre pre (rAndsL tk (rTest tk (rSum tk N (rPart tk tp tv (rAnds tk tp tv N k (d + 1)) d))) N (rTest tk (rSum tk N (rPart tk tp tv (rAnds tk tp tv N k (d + 1)) d)) s))
    rw [hT, nt_andsL hT N]
