/-! the reader by descent, and the reference's reader -/
theorem gobA {n : Nat} {tk tp : Nat → Nat} (hn : tk n = 0) : ∀ (m A : Nat) (f : Int32) (out : List (Nat × Int32)) (d : Nat) (sW gW aW : Nat → Nat), A ≤ n → A ≤ (pGob tk tp m (A, f, out, d, sW, gW, aW)).1.1 ∧ (pGob tk tp m (A, f, out, d, sW, gW, aW)).1.1 ≤ n ∧ (pGob tk tp m (A, f, out, d, sW, gW, aW)).1.2.2.2.1 ≤ d ∧ ((pGob tk tp m (A, f, out, d, sW, gW, aW)).2 = true → A < (pGob tk tp m (A, f, out, d, sW, gW, aW)).1.1 ∧ (pGob tk tp m (A, f, out, d, sW, gW, aW)).1.2.1 = 0) := by
  intro m
  induction m with
  | zero => intro A f out d sW gW aW hA; exact ⟨Nat.le_refl _, hA, Nat.le_refl _, fun q => by cases q⟩
  | succ m ih =>
  have h249 : ∀ (A : Nat) (f : Int32) (out : List (Nat × Int32)) (d : Nat) (sW gW aW : Nat → Nat), A ≤ n → A ≤ (q249 tk tp (pGob tk tp m) (A, f, out, d, sW, gW, aW)).1.1 ∧ (q249 tk tp (pGob tk tp m) (A, f, out, d, sW, gW, aW)).1.1 ≤ n ∧ (q249 tk tp (pGob tk tp m) (A, f, out, d, sW, gW, aW)).1.2.2.2.1 ≤ d ∧ ((q249 tk tp (pGob tk tp m) (A, f, out, d, sW, gW, aW)).2 = true → A < (q249 tk tp (pGob tk tp m) (A, f, out, d, sW, gW, aW)).1.1 ∧ (q249 tk tp (pGob tk tp m) (A, f, out, d, sW, gW, aW)).1.2.1 = 0) := by
    intro A f out d sW gW aW hA
    rw [q249_e]
    by_cases e0 : d = 0
    · rw [if_pos e0]
      exact ⟨Nat.le_refl _, hA, Nat.le_refl _, fun q => by cases q⟩
    · rw [if_neg e0]
      by_cases e1 : tk A = 41
      · rw [if_pos e1]
        have hlt := lt_of_tk hn hA e1 (by decide)
        obtain ⟨a1, a2, a3, a4⟩ := ih (A + 1) f out (d - 1) sW gW aW (by omega)
        exact ⟨by omega, a2, by omega, fun q => ⟨by have := (a4 q).1; omega, (a4 q).2⟩⟩
      · rw [if_neg e1]
        obtain ⟨a1, a2, a3, a4⟩ := ih A (fltp tp 1 A) out (d - 1) sW gW aW hA
        exact ⟨a1, a2, by omega, a4⟩
  have h218 : ∀ (A : Nat) (out : List (Nat × Int32)) (d : Nat) (sW gW aW : Nat → Nat), A ≤ n → A ≤ (q218 tk tp (pGob tk tp m) (A, 0, out, d, sW, gW, aW)).1.1 ∧ (q218 tk tp (pGob tk tp m) (A, 0, out, d, sW, gW, aW)).1.1 ≤ n ∧ (q218 tk tp (pGob tk tp m) (A, 0, out, d, sW, gW, aW)).1.2.2.2.1 ≤ d ∧ ((q218 tk tp (pGob tk tp m) (A, 0, out, d, sW, gW, aW)).2 = true → A < (q218 tk tp (pGob tk tp m) (A, 0, out, d, sW, gW, aW)).1.1 ∧ (q218 tk tp (pGob tk tp m) (A, 0, out, d, sW, gW, aW)).1.2.1 = 0) := by
    intro A out d sW gW aW hA
    rw [q218_e]
    by_cases e1 : tk A = 6
    · have hlt := lt_of_tk hn hA e1 (by decide)
      rw [if_pos e1]
      exact ⟨Nat.le_succ _, hlt, Nat.le_refl _, fun _ => ⟨Nat.lt_succ_self _, rfl⟩⟩
    · rw [if_neg e1]
      exact h249 A 0 out d sW gW aW hA
  have h189 : ∀ (A : Nat) (out : List (Nat × Int32)) (d : Nat) (sW gW aW : Nat → Nat), A ≤ n → A ≤ (q189 tk tp (pGob tk tp m) (A, 0, out, d, sW, gW, aW)).1.1 ∧ (q189 tk tp (pGob tk tp m) (A, 0, out, d, sW, gW, aW)).1.1 ≤ n ∧ (q189 tk tp (pGob tk tp m) (A, 0, out, d, sW, gW, aW)).1.2.2.2.1 ≤ d ∧ ((q189 tk tp (pGob tk tp m) (A, 0, out, d, sW, gW, aW)).2 = true → A < (q189 tk tp (pGob tk tp m) (A, 0, out, d, sW, gW, aW)).1.1 ∧ (q189 tk tp (pGob tk tp m) (A, 0, out, d, sW, gW, aW)).1.2.1 = 0) := by
    intro A out d sW gW aW hA
    rw [q189_e]
    split
    · exact h218 A out d sW gW aW hA
    · exact h218 A _ d sW gW _ hA
  have h96 : ∀ (A : Nat) (out : List (Nat × Int32)) (d : Nat) (sW gW aW : Nat → Nat), A ≤ n → A ≤ (q96 tk tp (pGob tk tp m) (A, 0, out, d, sW, gW, aW)).1.1 ∧ (q96 tk tp (pGob tk tp m) (A, 0, out, d, sW, gW, aW)).1.1 ≤ n ∧ (q96 tk tp (pGob tk tp m) (A, 0, out, d, sW, gW, aW)).1.2.2.2.1 ≤ d ∧ ((q96 tk tp (pGob tk tp m) (A, 0, out, d, sW, gW, aW)).2 = true → A < (q96 tk tp (pGob tk tp m) (A, 0, out, d, sW, gW, aW)).1.1 ∧ (q96 tk tp (pGob tk tp m) (A, 0, out, d, sW, gW, aW)).1.2.1 = 0) := by
    intro A out d sW gW aW hA
    rw [q96_e]
    by_cases e0 : gW d = 0
    · rw [if_pos e0]
      by_cases e1 : tk A = 60
      · have hlt := lt_of_tk hn hA e1 (by decide)
        rw [if_pos e1]
        exact ⟨Nat.le_succ _, hlt, Nat.le_refl _, fun _ => ⟨Nat.lt_succ_self _, rfl⟩⟩
      · rw [if_neg e1]
        by_cases e2 : tk A = 61
        · have hlt := lt_of_tk hn hA e2 (by decide)
          rw [if_pos e2]
          exact ⟨Nat.le_succ _, hlt, Nat.le_refl _, fun _ => ⟨Nat.lt_succ_self _, rfl⟩⟩
        · rw [if_neg e2]
          exact h189 A out d sW gW aW hA
    · rw [if_neg e0]
      exact h189 A _ d sW _ aW hA
  have h43 : ∀ (A : Nat) (out : List (Nat × Int32)) (d : Nat) (sW gW aW : Nat → Nat), A ≤ n → A ≤ (q43 tk tp (pGob tk tp m) (A, 0, out, d, sW, gW, aW)).1.1 ∧ (q43 tk tp (pGob tk tp m) (A, 0, out, d, sW, gW, aW)).1.1 ≤ n ∧ (q43 tk tp (pGob tk tp m) (A, 0, out, d, sW, gW, aW)).1.2.2.2.1 ≤ d ∧ ((q43 tk tp (pGob tk tp m) (A, 0, out, d, sW, gW, aW)).2 = true → A < (q43 tk tp (pGob tk tp m) (A, 0, out, d, sW, gW, aW)).1.1 ∧ (q43 tk tp (pGob tk tp m) (A, 0, out, d, sW, gW, aW)).1.2.1 = 0) := by
    intro A out d sW gW aW hA
    rw [q43_e]
    by_cases e1 : tk A = 43
    · have hlt := lt_of_tk hn hA e1 (by decide)
      rw [if_pos e1]
      exact ⟨Nat.le_succ _, hlt, Nat.le_refl _, fun _ => ⟨Nat.lt_succ_self _, rfl⟩⟩
    · rw [if_neg e1]
      by_cases e2 : tk A = 45
      · have hlt := lt_of_tk hn hA e2 (by decide)
        rw [if_pos e2]
        exact ⟨Nat.le_succ _, hlt, Nat.le_refl _, fun _ => ⟨Nat.lt_succ_self _, rfl⟩⟩
      · rw [if_neg e2]
        exact h96 A out d sW gW aW hA
  intro A f out d sW gW aW hA
  show A ≤ (q0 tk tp (pGob tk tp m) (A, f, out, d, sW, gW, aW)).1.1 ∧ (q0 tk tp (pGob tk tp m) (A, f, out, d, sW, gW, aW)).1.1 ≤ n ∧ (q0 tk tp (pGob tk tp m) (A, f, out, d, sW, gW, aW)).1.2.2.2.1 ≤ d ∧ ((q0 tk tp (pGob tk tp m) (A, f, out, d, sW, gW, aW)).2 = true → A < (q0 tk tp (pGob tk tp m) (A, f, out, d, sW, gW, aW)).1.1 ∧ (q0 tk tp (pGob tk tp m) (A, f, out, d, sW, gW, aW)).1.2.1 = 0)
  rw [q0_e]
  by_cases e0 : f = 0
  · subst e0
    rw [if_pos rfl]
    split
    · exact h43 A out d sW gW aW hA
    · exact h43 A _ d _ gW aW hA
  · rw [if_neg e0]
    exact ⟨Nat.le_refl _, hA, Nat.le_refl _, fun q => by cases q⟩
/-- enough is enough: the depth bounds the way out -/
theorem gobS {tk tp : Nat → Nat} : ∀ (m m2 : Nat) (A : Nat) (f : Int32) (out : List (Nat × Int32)) (d : Nat) (sW gW aW : Nat → Nat), d < m → d < m2 → pGob tk tp m (A, f, out, d, sW, gW, aW) = pGob tk tp m2 (A, f, out, d, sW, gW, aW) := by
  intro m
  induction m with
  | zero => intro m2 A f out d sW gW aW h; omega
  | succ m ih =>
  intro m2 A f out d sW gW aW h1 h2
  obtain ⟨k, rfl⟩ : ∃ k, m2 = k + 1 := ⟨m2 - 1, by omega⟩
  have e249 : ∀ (A : Nat) (f : Int32) (out : List (Nat × Int32)) (sW gW aW : Nat → Nat), q249 tk tp (pGob tk tp m) (A, f, out, d, sW, gW, aW) = q249 tk tp (pGob tk tp k) (A, f, out, d, sW, gW, aW) := fun A f out sW gW aW => by
    rw [q249_e, q249_e]
    by_cases e0 : d = 0
    · rw [if_pos e0, if_pos e0]
    · rw [if_neg e0, if_neg e0, ih k _ _ _ (d - 1) _ _ _ (by omega) (by omega), ih k _ _ _ (d - 1) _ _ _ (by omega) (by omega)]
  show q0 tk tp (pGob tk tp m) (A, f, out, d, sW, gW, aW) = q0 tk tp (pGob tk tp k) (A, f, out, d, sW, gW, aW)
  simp only [q0_e, q43_e, q96_e, q189_e, q218_e, e249]
