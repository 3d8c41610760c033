/-! how many are left: pure -/
theorem kcnt_ins {p q : Nat → Bool} {j : Nat} : ∀ G, j < G → p j = false → q j = true → (∀ g, g ≠ j → q g = p g) → kcnt q G = kcnt p G + 1
  | 0, h, _, _, _ => by omega
  | G + 1, h, h1, h2, h3 => by
    by_cases e : j = G
    · subst e
      rw [kcnt_y h2, kcnt_n h1, kcnt_cong j (fun g hg => h3 g (by omega))]
    · have ih := kcnt_ins (p := p) (q := q) G (by omega) h1 h2 h3
      simp only [kcnt]
      rw [ih, h3 G (fun w => e w.symm)]
      grind
theorem kcnt_f {p : Nat → Bool} : ∀ G, (∀ g, g < G → p g = false) → kcnt p G = 0
  | 0, _ => rfl
  | G + 1, h => by rw [kcnt_n (h G (by omega)), kcnt_f G (fun g hg => h g (by omega))]
/-- a game that was laid: its state, and the others' -/
theorem mgw_31 {I I2 : Nat → Nat → Int32} {P G D k g : Nat} (hkg : k ≠ g) (hk : I 31 k = 1) (e : mgw I P G D k g = some I2) : mF2 I I2 ∧ I2 31 g = 1 ∧ ∀ h, h ≠ g → I2 31 h = I 31 h := by
  unfold mgw at e
  split at e
  · cases e
  · split at e
    · cases e
    · cases e
      refine ⟨(mF2_off I k 0 (-1)).tr ((mF2_lays _ g _).tr (mF2_lays _ k _)), ?_, fun h hh => ?_⟩
      · rw [l31_lays, if_neg (Ne.symm hkg), l31_lays, if_pos rfl]
      · rw [l31_lays]
        by_cases ek : h = k
        · rw [if_pos ek, ek, hk]
        · rw [if_neg ek, l31_lays, if_neg hh]
          show zu (zu I 31 k 0) 32 k (-1) 31 h = _
          rw [l31_off, if_neg ek]
theorem mlk_31 {I I2 : Nat → Nat → Int32} {P G D g : Nat} (hg : I 31 g = 0) : ∀ (m k : Nat), mlk I P G D g k m = some I2 → mF2 I I2 ∧ I2 31 g = 1 ∧ ∀ h, h ≠ g → I2 31 h = I 31 h
  | 0, k, e => by cases e
  | m + 1, k, e => by
    rw [mlk_e] at e
    by_cases h : I 31 k = 1 ∧ I 29 k = I 29 g
    · rw [if_pos h] at e
      have hkg : k ≠ g := fun q => by
        have := h.1
        rw [q, hg] at this
        exact absurd this (by decide)
      cases hm : mgw I P G D k g with
      | none =>
        rw [hm] at e
        exact mlk_31 hg m _ e
      | some I3 =>
        rw [hm] at e
        cases e
        exact mgw_31 hkg h.1 hm
    · rw [if_neg h] at e
      exact mlk_31 hg m _ e
theorem mlo_31 {I I2 : Nat → Nat → Int32} {P G D g : Nat} (hg : I 31 g = 0) (e : mlo I P G D g = some I2) : mF2 I I2 ∧ I2 31 g = 1 ∧ ∀ h, h ≠ g → I2 31 h = I 31 h := by
  unfold mlo at e
  split at e
  · exact mlk_31 hg _ _ e
  · cases e
    exact ⟨mF2_lays I g _, by rw [l31_lays, if_pos rfl], fun h hh => by rw [l31_lays, if_neg hh]⟩
theorem mlayG_e (P G D : Nat) (w r : Int32) (x : (Nat → Nat → Int32) × Int32) (j : Nat) : mlayG P G D w r x (j + 1) = if (mlayG P G D w r x j).1 31 j = 0 ∧ (mlayG P G D w r x j).1 29 j = w ∧ (mlayG P G D w r x j).1 28 j = r then (match mlo (mlayG P G D w r x j).1 P G D j with | some J => (J, (mlayG P G D w r x j).2) | none => ((mlayG P G D w r x j).1, (mlayG P G D w r x j).2 + 1)) else mlayG P G D w r x j := rfl
def kpd (I : Nat → Nat → Int32) (w : Int32) (rk : Nat → Nat) (i j g : Nat) : Bool := decide (I 29 g = w) && decide (I 31 g = 0) && (decide (10 ≤ rk g + i) || (decide (rk g + i = 9) && decide (g < j)))
theorem layG_cnt {P G D : Nat} {w : Int32} {rk : Nat → Nat} {i : Nat} (hi9 : i ≤ 9) (x : (Nat → Nat → Int32) × Int32) (hrk : ∀ g, g < G → rk g ≤ 9 ∧ x.1 28 g = nI (rk g)) (hx : x.2 = kcnt (kpd x.1 w rk i 0) G) : ∀ j, j ≤ G → mF2 x.1 (mlayG P G D w (9 - nI i) x j).1 ∧ (mlayG P G D w (9 - nI i) x j).2 = kcnt (kpd (mlayG P G D w (9 - nI i) x j).1 w rk i j) G
  | 0, _ => ⟨mF2.rf _, hx⟩
  | j + 1, hj => by
    obtain ⟨hF, hc⟩ := layG_cnt hi9 x hrk hx j (by omega)
    rw [mlayG_e]
    generalize mlayG P G D w (9 - nI i) x j = y at hF hc ⊢
    obtain ⟨Iy, ny⟩ := y
    dsimp only at hF hc ⊢
    have h28 : Iy 28 j = nI (rk j) := by rw [hF 28 (by decide) (by decide)]; exact (hrk j (by omega)).2
    have hr9 := (hrk j (by omega)).1
    have hrr : Iy 28 j = 9 - nI i ↔ rk j + i = 9 := by
      rw [h28, show (9 : Int32) - nI i = nI (9 - i) from (by
        obtain ⟨d, hd⟩ : ∃ d, i + d = 9 := ⟨9 - i, by omega⟩
        rw [show (9 : Int32) = nI (i + d) by rw [hd]; rfl, zsub, show 9 - i = d by omega]), zeq (by omega) (by omega)]
      omega
    by_cases h : Iy 31 j = 0 ∧ Iy 29 j = w ∧ Iy 28 j = 9 - nI i
    · rw [if_pos h]
      have hri := hrr.mp h.2.2
      have hold : kpd Iy w rk i j j = false := by
        unfold kpd
        rw [decide_eq_false (show ¬ 10 ≤ rk j + i by omega), decide_eq_false (Nat.lt_irrefl j), Bool.and_false, Bool.or_false, Bool.and_false]
      cases hm : mlo Iy P G D j with
      | none =>
        refine ⟨hF, ?_⟩
        dsimp only
        rw [hc]
        refine (kcnt_ins G (by omega) hold ?_ (fun g hg => ?_)).symm
        · unfold kpd
          rw [decide_eq_true h.1, decide_eq_true h.2.1, decide_eq_true hri, decide_eq_true (show j < j + 1 by omega)]
          simp
        · unfold kpd
          rw [show decide (g < j + 1) = decide (g < j) by rw [decide_eq_decide]; omega]
      | some I2 =>
        obtain ⟨m1, m2, m3⟩ := mlo_31 h.1 hm
        refine ⟨hF.tr m1, ?_⟩
        dsimp only
        rw [hc]
        refine kcnt_cong G (fun g hg => ?_)
        by_cases e : g = j
        · rw [e, hold]
          unfold kpd
          rw [m2, decide_eq_false (show ¬ (1 : Int32) = 0 by decide), Bool.and_false, Bool.false_and]
        · unfold kpd
          rw [m3 g e, m1 29 (by decide) (by decide), show decide (g < j + 1) = decide (g < j) by rw [decide_eq_decide]; omega]
    · rw [if_neg h]
      refine ⟨hF, ?_⟩
      dsimp only
      rw [hc]
      refine kcnt_cong G (fun g hg => ?_)
      by_cases e : g = j
      · subst e
        unfold kpd
        by_cases e1 : Iy 29 g = w ∧ Iy 31 g = 0
        · have : ¬ rk g + i = 9 := fun q => h ⟨e1.2, e1.1, hrr.mpr q⟩
          rw [decide_eq_false this, Bool.false_and, Bool.false_and]
        · have : (decide (Iy 29 g = w) && decide (Iy 31 g = 0)) = false := by
            rw [Bool.and_eq_false_iff, decide_eq_false_iff_not, decide_eq_false_iff_not]
            exact Decidable.not_and_iff_or_not.mp e1
          rw [this, Bool.false_and, Bool.false_and]
      · unfold kpd
        rw [show decide (g < j + 1) = decide (g < j) by rw [decide_eq_decide]; omega]
theorem layR_cnt {P G D : Nat} {w : Int32} {rk : Nat → Nat} (x : (Nat → Nat → Int32) × Int32) (hrk : ∀ g, g < G → rk g ≤ 9 ∧ x.1 28 g = nI (rk g)) (hx : x.2 = 0) : ∀ i, i ≤ 10 → mF2 x.1 (mlayR P G D w x i).1 ∧ (mlayR P G D w x i).2 = kcnt (kpd (mlayR P G D w x i).1 w rk i 0) G
  | 0, _ => by
    refine ⟨mF2.rf _, ?_⟩
    rw [show (mlayR P G D w x 0).2 = 0 from hx]
    refine (kcnt_f G (fun g hg => ?_)).symm
    unfold kpd
    rw [decide_eq_false (show ¬ 10 ≤ rk g + 0 by have := (hrk g hg).1; omega), decide_eq_false (Nat.not_lt_zero g), Bool.and_false, Bool.or_false, Bool.and_false]
  | i + 1, hi => by
    obtain ⟨hF, hc⟩ := layR_cnt x hrk hx i (by omega)
    obtain ⟨hF2, hc2⟩ := layG_cnt (P := P) (D := D) (w := w) (rk := rk) (show i ≤ 9 by omega) (mlayR P G D w x i) (fun g hg => ⟨(hrk g hg).1, by rw [hF 28 (by decide) (by decide)]; exact (hrk g hg).2⟩) hc G (Nat.le_refl _)
    refine ⟨hF.tr hF2, ?_⟩
    show (mlayG P G D w (9 - nI i) (mlayR P G D w x i) G).2 = _
    rw [hc2]
    refine kcnt_cong G (fun g hg => ?_)
    show kpd _ w rk i G g = kpd (mlayG P G D w (9 - nI i) (mlayR P G D w x i) G).1 w rk (i + 1) 0 g
    unfold kpd
    congr 1
    rw [decide_eq_true hg, Bool.and_true, decide_eq_false (Nat.not_lt_zero g), Bool.and_false, Bool.or_false]
    by_cases e1 : 10 ≤ rk g + i
    · rw [decide_eq_true e1, decide_eq_true (show 10 ≤ rk g + (i + 1) by omega), Bool.true_or]
    · rw [decide_eq_false e1, Bool.false_or, decide_eq_decide]
      omega
theorem lay_cnt {P G D : Nat} {w : Int32} {I : Nat → Nat → Int32} (hrk : ∀ g, g < G → ∃ x, x ≤ 9 ∧ I 28 g = nI x) : (mlayR P G D w (I, 0) 10).2 = kcnt (fun g => decide ((mlayR P G D w (I, 0) 10).1 29 g = w) && decide ((mlayR P G D w (I, 0) 10).1 31 g = 0)) G := by
  obtain ⟨rk, hr⟩ : ∃ rk : Nat → Nat, ∀ g, g < G → rk g ≤ 9 ∧ I 28 g = nI (rk g) := by
    refine ⟨fun g => (I 28 g).toNatClampNeg, fun g hg => ?_⟩
    obtain ⟨x, hx, e⟩ := hrk g hg
    dsimp only
    rw [e, zcl (by omega)]
    exact ⟨hx, rfl⟩
  obtain ⟨-, h2⟩ := layR_cnt (P := P) (G := G) (D := D) (w := w) (rk := rk) (I, 0) hr rfl 10 (Nat.le_refl _)
  rw [h2]
  refine kcnt_cong G (fun g hg => ?_)
  unfold kpd
  rw [decide_eq_true (show 10 ≤ rk g + 10 by omega), Bool.true_or, Bool.and_true]
