/-! a word is its hash -/
theorem hsh_inj {ch ch2 : Nat → Nat} {a a2 : Nat} : ∀ (m m2 : Nat), (∀ i, i < m → isLn (ch (a + i)) = true) → (∀ i, i < m2 → isLn (ch2 (a2 + i)) = true) → hsh ch a m = hsh ch2 a2 m2 → m = m2 ∧ ∀ i, i < m → ch (a + i) = ch2 (a2 + i)
  | 0, 0, _, _, _ => ⟨rfl, fun i h => by omega⟩
  | 0, m2 + 1, _, h2, e => by
    have := isLn_t.mp (h2 m2 (by omega))
    simp only [hsh] at e
    omega
  | m + 1, 0, h1, _, e => by
    have := isLn_t.mp (h1 m (by omega))
    simp only [hsh] at e
    omega
  | m + 1, m2 + 1, h1, h2, e => by
    have g1 := isLn_t.mp (h1 m (by omega))
    have g2 := isLn_t.mp (h2 m2 (by omega))
    simp only [hsh] at e
    have e1 : hsh ch a m = hsh ch2 a2 m2 := by omega
    have e2 : ch (a + m) = ch2 (a2 + m2) := by omega
    obtain ⟨q1, q2⟩ := hsh_inj m m2 (fun i hi => h1 i (by omega)) (fun i hi => h2 i (by omega)) e1
    refine ⟨by omega, fun i hi => ?_⟩
    by_cases ei : i = m
    · subst ei; rw [e2, q1]
    · exact q2 i (by omega)
def wch (w i : Nat) : Nat := (([[115, 104, 117, 116], [97, 108, 108], [119, 104, 101, 110], [97, 110, 100], [119, 101, 116], [119, 97, 114, 109], [108, 101, 97, 115, 116], [109, 101, 97, 110], [112, 108, 97, 121, 101, 100], [100, 97, 121], [104, 111, 117, 114], [97, 103, 101]] : List (List Nat)).getD w []).getD i 0
def wln (w : Nat) : Nat := ([4, 3, 4, 3, 3, 4, 5, 4, 6, 3, 4, 3] : List Nat).getD w 0
theorem mwN_hsh : ∀ w, w < 12 → mwN w = hsh (wch w) 0 (wln w) ∧ ∀ i, i < wln w → isLn (wch w (0 + i)) = true := by decide +kernel
theorem mwN_inj : ∀ a, a < 12 → ∀ b, b < 12 → mwN a = mwN b → a = b := by decide +kernel
/-- the kind of a word by its letters -/
theorem wk_word {ch : Nat → Nat} {a m w : Nat} (hl : ∀ i, i < m → isLn (ch (a + i)) = true) (hw : w < 12) : wk (hsh ch a m) 12 = 3 + w ↔ (m = wln w ∧ ∀ i, i < m → ch (a + i) = wch w i) := by
  obtain ⟨g1, g2⟩ := mwN_hsh w hw
  constructor
  · intro h
    rcases wk_spec (hsh ch a m) 12 with ⟨w2, k1, k2, k3⟩ | ⟨k1, -⟩
    · have : w2 = w := by omega
      subst this
      have := hsh_inj m (wln w2) hl g2 (by rw [← k3, g1])
      exact ⟨this.1, fun i hi => by have := this.2 i hi; rwa [Nat.zero_add] at this⟩
    · omega
  · intro ⟨h1, h2⟩
    have e : hsh ch a m = mwN w := by
      rw [g1, ← h1]
      clear g1 g2 hl
      induction m generalizing w with
      | zero => rfl
      | succ m ih =>
        simp only [hsh]
        have e1 : ∀ k, k ≤ m + 1 → hsh ch a k = hsh (wch w) 0 k := by
          intro k
          induction k with
          | zero => intro _; rfl
          | succ k ihk =>
            intro hk
            simp only [hsh]
            rw [ihk (by omega), h2 k (by omega), Nat.zero_add]
        rw [e1 m (by omega), h2 m (by omega), Nat.zero_add]
    rcases wk_spec (hsh ch a m) 12 with ⟨w2, k1, k2, k3⟩ | ⟨k1, k2⟩
    · rw [k2, mwN_inj w2 k1 w hw (by rw [k3, e])]
    · exact absurd e.symm (k2 w hw)
