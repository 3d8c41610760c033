/-! what holds of the games -/
theorem mfind_spec (p : Nat → Bool) : ∀ (k lo : Nat), (∃ x, lo ≤ x ∧ x < lo + k ∧ p x = true ∧ mfind p lo k = nI x ∧ ∀ y, lo ≤ y → y < x → p y = false) ∨ (mfind p lo k = -1 ∧ ∀ y, lo ≤ y → y < lo + k → p y = false)
  | 0, lo => Or.inr ⟨rfl, fun y h1 h2 => by omega⟩
  | k + 1, lo => by
    by_cases h : p lo = true
    · exact Or.inl ⟨lo, Nat.le_refl _, by omega, h, mfind_hit h (by omega), fun y h1 h2 => by omega⟩
    · have h' : p lo = false := by simpa using h
      rw [mfind_miss h' (by omega), Nat.add_sub_cancel]
      rcases mfind_spec p k (lo + 1) with ⟨x, h1, h2, h3, h4, h5⟩ | ⟨h1, h2⟩
      · refine Or.inl ⟨x, by omega, by omega, h3, h4, fun y hy1 hy2 => ?_⟩
        by_cases e : y = lo
        · rw [e]; exact h'
        · exact h5 y (by omega) hy2
      · refine Or.inr ⟨h1, fun y hy1 hy2 => ?_⟩
        by_cases e : y = lo
        · rw [e]; exact h'
        · exact h2 y (by omega) (by omega)
theorem mga_spec (I : Nat → Nat → Int32) (s : Int32) : ∀ G, (∃ g, g < G ∧ mth I g = true ∧ I 32 g = s ∧ mga I s G = nI g) ∨ (mga I s G = -1 ∧ ∀ g, g < G → ¬ (mth I g = true ∧ I 32 g = s))
  | 0 => Or.inr ⟨rfl, fun g h => by omega⟩
  | G + 1 => by
    simp only [mga]
    by_cases h : mth I G = true ∧ I 32 G = s
    · rw [if_pos h]
      exact Or.inl ⟨G, by omega, h.1, h.2, rfl⟩
    · rw [if_neg h]
      rcases mga_spec I s G with ⟨g, h1, h2, h3, h4⟩ | ⟨h1, h2⟩
      · exact Or.inl ⟨g, by omega, h2, h3, h4⟩
      · refine Or.inr ⟨h1, fun g hg => ?_⟩
        by_cases e : g = G
        · rw [e]; exact h
        · exact h2 g (by omega)
theorem mfr_spec (I : Nat → Nat → Int32) (g : Nat) (s : Int32) : ∀ G, mfr I g s G = true ↔ ∀ k, k < G → k ≠ g → mth I k = true → I 32 k / 24 = s / 24 → mhc I k (I 25 g) = false ∧ mhc I k (I 26 g) = false
  | 0 => ⟨fun _ k h => by omega, fun _ => rfl⟩
  | G + 1 => by
    simp only [mfr]
    by_cases h : G ≠ g ∧ mth I G = true ∧ I 32 G / 24 = s / 24
    · rw [if_pos h, Bool.and_eq_true, Bool.and_eq_true, mfr_spec I g s G]
      constructor
      · rintro ⟨⟨h1, h2⟩, h3⟩ k hk h4 h5 h6
        by_cases e : k = G
        · subst e
          exact ⟨by simpa using h2, by simpa using h3⟩
        · exact h1 k (by omega) h4 h5 h6
      · intro h1
        have h2 := h1 G (by omega) h.1 h.2.1 h.2.2
        exact ⟨⟨fun k hk => h1 k (by omega), by simp [h2.1]⟩, by simp [h2.2]⟩
    · rw [if_neg h, mfr_spec I g s G]
      constructor
      · intro h1 k hk h4 h5 h6
        by_cases e : k = G
        · subst e
          exact absurd ⟨h4, h5, h6⟩ h
        · exact h1 k (by omega) h4 h5 h6
      · intro h1 k hk
        exact h1 k (by omega)
/-- where a game stands -/
def kIs (I : Nat → Nat → Int32) (P w g : Nat) : Prop := (mth I g = false ∧ (I 31 g = 0 ∨ I 31 g = 3) ∧ I 32 g = -1) ∨ (mth I g = true ∧ ∃ S, I 32 g = nI (168 * w + S) ∧ S < 168 ∧ S % 6 < P)
def kIg (I : Nat → Nat → Int32) (P g : Nat) : Prop := (∃ a b, a < 16 ∧ b < 16 ∧ a ≠ b ∧ I 25 g = nI a ∧ I 26 g = nI b) ∧ (∃ x, x ≤ 2 ∧ I 27 g = nI x) ∧ (∃ x, x ≤ 9 ∧ I 28 g = nI x) ∧ (∃ x, x < 268435456 ∧ I 30 g = nI x) ∧ ∃ w, w ≤ 50 ∧ I 29 g = nI w ∧ kIs I P w g
def kIu (I : Nat → Nat → Int32) (G : Nat) : Prop := ∀ g h, g < G → h < G → g ≠ h → mth I g = true → mth I h = true → I 32 g ≠ I 32 h
def kIc (I : Nat → Nat → Int32) (G : Nat) : Prop := ∀ g h, g < G → h < G → g ≠ h → mth I g = true → mth I h = true → I 32 g / 24 = I 32 h / 24 → ∀ c, mhc I g c = true → mhc I h c = false
def kIv (I : Nat → Nat → Int32) (P G : Nat) : Prop := (∀ g, g < G → kIg I P g) ∧ kIu I G ∧ kIc I G
theorem nIneg {x : Nat} (h : x ≤ 1000000) : ¬ nI x < 0 := nI_pos (by omega)
theorem nIne1 {x : Nat} (h : x ≤ 1000000) : nI x ≠ -1 := fun q => nIneg h (by rw [q]; decide)
theorem krel {w S : Nat} : nI (168 * w + S) - 168 * nI w = nI S := by
  rw [show (168 : Int32) = nI 168 from rfl, pk_mul, zsub]
/-- the slot within the week -/
theorem kslot_there {J I : Nat → Nat → Int32} {b g w S : Nat} (h : kGm J I b g) (hw : w ≤ 50) (h29 : I 29 g = nI w) (hS : S < 168) (h32 : I 32 g = nI (168 * w + S)) : J b 8 = nI S := by
  rw [h.2.2.2.2.1, h32, if_neg (nIneg (by omega)), h29, krel]
theorem kslot_none {J I : Nat → Nat → Int32} {b g : Nat} (h : kGm J I b g) (h32 : I 32 g = -1) : J b 8 = -1 := by
  rw [h.2.2.2.2.1, h32, if_pos (by decide)]
theorem kgi_iff {J I : Nat → Nat → Int32} {P w S g : Nat} {ga : Nat → Nat} (hm : kGm J I (ga g) g) (hi : kIg I P g) (hw : w ≤ 50) (hS : S < 168) : kgi J ga (nI w) (nI S) g = true ↔ (mth I g = true ∧ I 32 g = nI (168 * w + S)) := by
  obtain ⟨-, -, -, -, w', hw', h29, hs⟩ := hi
  unfold kgi
  rw [Bool.and_eq_true, decide_eq_true_iff, decide_eq_true_iff, hm.2.1, h29, zeq (by omega) (by omega)]
  rcases hs with ⟨h1, -, h3⟩ | ⟨h1, S', h2, h3, h4⟩
  · rw [kslot_none hm h3, h1]
    exact ⟨fun q => absurd q.2.symm (nIne1 (by omega)), fun q => by cases q.1⟩
  · rw [kslot_there hm hw' h29 h3 h2, h2, h1, zeq (by omega) (by omega), zeq (by omega) (by omega)]
    constructor
    · rintro ⟨rfl, rfl⟩; exact ⟨rfl, rfl⟩
    · rintro ⟨-, q⟩
      have : w' = w := by omega
      subst this
      exact ⟨rfl, by omega⟩
theorem kgi_ga {J I : Nat → Nat → Int32} {P w S G : Nat} {ga : Nat → Nat} (hm : ∀ g, g < G → kGm J I (ga g) g) (hi : ∀ g, g < G → kIg I P g) (hu : kIu I G) (hw : w ≤ 50) (hS : S < 168) : mfind (kgi J ga (nI w) (nI S)) 0 G = mga I (nI (168 * w + S)) G := by
  rcases mfind_spec (kgi J ga (nI w) (nI S)) G 0 with ⟨x, -, h2, h3, h4, -⟩ | ⟨h1, h2⟩
  · obtain ⟨a1, a2⟩ := (kgi_iff (hm x (by omega)) (hi x (by omega)) hw hS).mp h3
    rcases mga_spec I (nI (168 * w + S)) G with ⟨g, b1, b2, b3, b4⟩ | ⟨b1, b2⟩
    · have : g = x := Decidable.byContradiction (fun ne => hu g x b1 (by omega) ne b2 a1 (b3.trans a2.symm))
      rw [h4, b4, this]
    · exact absurd ⟨a1, a2⟩ (b2 x (by omega))
  · rcases mga_spec I (nI (168 * w + S)) G with ⟨g, b1, b2, b3, b4⟩ | ⟨b1, b2⟩
    · have := (kgi_iff (hm g b1) (hi g b1) hw hS).mpr ⟨b2, b3⟩
      rw [h2 g (Nat.zero_le _) (by omega)] at this
      cases this
    · rw [h1, b1]
theorem k357 {r : Int32} : 357 ≤ r ↔ 356 < r := by
  rw [Int32.le_iff_toInt_le, Int32.lt_iff_toInt_lt]
  show (357 : Int) ≤ _ ↔ (356 : Int) < _
  omega
abbrev x8_at : ZX := (RX8, cX8_at, 4, (some .int), "at", 1, 40, false)
set_option maxHeartbeats 4000000 in
theorem c8_at (n : Nat) (K : Nat → Nat × Nat) (J : Nat → Nat → Int32) (L : Nat → Nat → Int64) (R : Nat → Nat → Option Nat) (P G : Nat) (pa ga : Nat → Nat) (ru sp : Nat) (hG : kG n K R P G pa ga ru sp) (I : Nat → Nat → Int32) (D : Nat) (hD : kD J I P G D pa ga) (hv : kIv I P G) (d h j : Nat) (hd : d < 357) (hh : h < 4) (hj : j < P) : Zm yX8_at cX8_at 4 (some .int) 1 40 0 0 [.ref 0, .int (nI d), .int (nI h), .int (nI j)] ((n, K, J, L, R)) (kQ (some (.int (mga I (nI (24 * d + 6 * h + j)) G))) n K J L R) := by
  refine Zm_of (lg := false) (by decide) (fun _ => by simp [Value.category]) (fun _ => Nat.le_of_ble_eq_true rfl) ?_
  show Zf x8_at 0 0 0 (zargs [.ref 0, .int (nI d), .int (nI h), .int (nI j)]) [] ((n, K, J, L, R)) _
  generalize hQ0 : (kQ (some (.int (mga I (nI (24 * d + 6 * h + j)) G))) n K J L R : Option Value → ZH → Prop) = Q0
  obtain ⟨⟨hn28, hP6, hG60⟩, ⟨hk0, hk1, hk2, hk3, hk4, hk5, hk6, hk7⟩, ⟨hr0, hr1, hr2, hr3, hr4, hr5, hr6⟩, ⟨hr7, hr8, hr9, hr10, hr11, hr12⟩, hB8, ⟨hT11, hR17, hT13⟩, ⟨hU18, hU23, hrs⟩, ⟨hgm, hgi⟩, ⟨hpm, hpi⟩⟩ := id hG
  have hn0 : 0 < n := by omega
  have hn1 : 1 < n := by omega
  have hn2 : 2 < n := by omega
  have hn3 : 3 < n := by omega
  have hn4 : 4 < n := by omega
  have hn5 : 5 < n := by omega
  have hn6 : 6 < n := by omega
  have hn7 : 7 < n := by omega
  have hn8 : 8 < n := by omega
  have hk8 : K 8 = (5, 0) := hB8.2.2.2.1
  have hn11 : 11 < n := by omega
  have hk11 : K 11 = (10, 0) := hT11.2.2.1
  obtain ⟨⟨h13, h14, h15⟩, hdg, hdp, hdt, hdc⟩ := id hD
  refine z_iload_n (i := 1) dX8_at_0 rfl rfl ?_
  refine z_if_lt 28 dX8_at_1 (by decide) (fun c_1 => absurd c_1 (nIneg (by omega))) (fun _ => ?_)
  refine z_iload_n (i := 1) dX8_at_4 rfl rfl ?_
  refine z_sipush (v := 357) dX8_at_5 (by decide) ?_
  refine z_icmp_ge 28 dX8_at_8 (by decide) (fun c_2 => absurd c_2 (fun q => by have := (zle (a := 357) (b := d) (by omega) (by omega)).mp q; omega)) (fun _ => ?_)
  refine z_iload_n (i := 2) dX8_at_11 rfl rfl ?_
  refine z_if_lt 28 dX8_at_12 (by decide) (fun c_3 => absurd c_3 (nIneg (by omega))) (fun _ => ?_)
  refine z_iload_n (i := 2) dX8_at_15 rfl rfl ?_
  refine z_iconst (v := 4) dX8_at_16 (by decide) ?_
  refine z_icmp_ge 28 dX8_at_17 (by decide) (fun c_4 => absurd c_4 (fun q => by have := (zle (a := 4) (b := h) (by omega) (by omega)).mp q; omega)) (fun _ => ?_)
  refine z_aload_n (i := 0) dX8_at_20 rfl rfl ?_
  refine z_iload_n (i := 3) dX8_at_21 rfl rfl ?_
  refine z_callV (st := []) (mc2 := 0) (ms2 := 0) zi8_156 zv_yX8_isPitch (c8_isPitch n K J L R 0 hn0 hk0 _) dX8_at_22 hn0 (congrArg Prod.fst hk0) rfl rfl rfl (by decide) (by decide) (Nat.le_of_ble_eq_true rfl) (by decide) (by decide) (fun r h2 hq => ?_)
  obtain ⟨rfl, rfl⟩ := hq
  rw [mip1 h13 hP6 hj]
  refine z_if_ne 30 dX8_at_25 (by decide) (fun _ => ?_) (fun c_5 => absurd c_5 (by decide))
  refine z_aload_n (i := 0) dX8_at_30 rfl rfl ?_
  refine z_iload_n (i := 1) dX8_at_31 rfl rfl ?_
  refine z_bipush (v := 7) dX8_at_32 (by decide) ?_
  refine z_idiv dX8_at_34 (by decide) ?_
  refine z_top (y := .int (nI (d / 7))) (by rw [zl7, zdiv (by omega) (by omega) (by omega)]) ?_
  refine z_iload_n (i := 1) dX8_at_35 rfl rfl ?_
  refine z_iload_n (i := 2) dX8_at_36 rfl rfl ?_
  refine z_iload_n (i := 3) dX8_at_37 rfl rfl ?_
  refine z_callS (st := [_, _]) (mc2 := 0) (ms2 := 0) zi8_178 zs_yX8_slotOf (c8_slotOf n K J L R d h j (by omega) hh (by omega)) dX8_at_38 rfl rfl (by decide) (by decide) (Nat.le_of_ble_eq_true rfl) (by decide) (by decide) (fun r h2 hq => ?_)
  obtain ⟨rfl, rfl⟩ := hq
  refine z_callV (st := []) (mc2 := 0) (ms2 := 0) zi8_182 zv_yX8_gameIn (c8_gameIn n K J L R P G pa ga ru sp hG _ _ h14) dX8_at_41 hn0 (congrArg Prod.fst hk0) rfl rfl rfl (by decide) (by decide) (Nat.le_of_ble_eq_true rfl) (by decide) (by decide) (fun r h2 hq => ?_)
  obtain ⟨rfl, rfl⟩ := hq
  rw [kgi_ga hdg hv.1 hv.2.1 (by omega) (by omega), show 168 * (d / 7) + (24 * (d % 7) + 6 * h + j) = 24 * d + 6 * h + j by omega]
  refine z_iret dX8_at_44 rfl ?_
  subst hQ0
  exact ⟨rfl, rfl⟩
set_option maxHeartbeats 4000000 in
theorem c8_at0 (n : Nat) (K : Nat → Nat × Nat) (J : Nat → Nat → Int32) (L : Nat → Nat → Int64) (R : Nat → Nat → Option Nat) (P G : Nat) (pa ga : Nat → Nat) (ru sp : Nat) (hG : kG n K R P G pa ga ru sp) (I : Nat → Nat → Int32) (D : Nat) (hD : kD J I P G D pa ga) (d h p : Int32) (hb : d < 0 ∨ 356 < d ∨ h < 0 ∨ 3 < h ∨ p < 0 ∨ nI P ≤ p) : Zm yX8_at cX8_at 4 (some .int) 1 40 0 0 [.ref 0, .int d, .int h, .int p] ((n, K, J, L, R)) (kQ (some (.int (-1))) n K J L R) := by
  refine Zm_of (lg := false) (by decide) (fun _ => by simp [Value.category]) (fun _ => Nat.le_of_ble_eq_true rfl) ?_
  show Zf x8_at 0 0 0 (zargs [.ref 0, .int d, .int h, .int p]) [] ((n, K, J, L, R)) _
  generalize hQ0 : (kQ (some (.int (-1))) n K J L R : Option Value → ZH → Prop) = Q0
  obtain ⟨⟨hn28, hP6, hG60⟩, ⟨hk0, hk1, hk2, hk3, hk4, hk5, hk6, hk7⟩, ⟨hr0, hr1, hr2, hr3, hr4, hr5, hr6⟩, ⟨hr7, hr8, hr9, hr10, hr11, hr12⟩, hB8, ⟨hT11, hR17, hT13⟩, ⟨hU18, hU23, hrs⟩, ⟨hgm, hgi⟩, ⟨hpm, hpi⟩⟩ := id hG
  have hn0 : 0 < n := by omega
  have hn1 : 1 < n := by omega
  have hn2 : 2 < n := by omega
  have hn3 : 3 < n := by omega
  have hn4 : 4 < n := by omega
  have hn5 : 5 < n := by omega
  have hn6 : 6 < n := by omega
  have hn7 : 7 < n := by omega
  have hn8 : 8 < n := by omega
  have hk8 : K 8 = (5, 0) := hB8.2.2.2.1
  have hn11 : 11 < n := by omega
  have hk11 : K 11 = (10, 0) := hT11.2.2.1
  obtain ⟨⟨h13, h14, h15⟩, hdg, hdp, hdt, hdc⟩ := id hD
  refine z_iload_n (i := 1) dX8_at_0 rfl rfl ?_
  refine z_if_lt 28 dX8_at_1 (by decide) (fun c_1 => ?_) (fun c_1 => ?_)
  · skip
    refine z_iconst (v := (-1)) dX8_at_28 (by decide) ?_
    refine z_iret dX8_at_29 rfl ?_
    subst hQ0
    exact ⟨rfl, rfl⟩
  · skip
    refine z_iload_n (i := 1) dX8_at_4 rfl rfl ?_
    refine z_sipush (v := 357) dX8_at_5 (by decide) ?_
    refine z_icmp_ge 28 dX8_at_8 (by decide) (fun c_2 => ?_) (fun c_2 => ?_)
    · skip
      refine z_iconst (v := (-1)) dX8_at_28 (by decide) ?_
      refine z_iret dX8_at_29 rfl ?_
      subst hQ0
      exact ⟨rfl, rfl⟩
    · skip
      refine z_iload_n (i := 2) dX8_at_11 rfl rfl ?_
      refine z_if_lt 28 dX8_at_12 (by decide) (fun c_3 => ?_) (fun c_3 => ?_)
      · skip
        refine z_iconst (v := (-1)) dX8_at_28 (by decide) ?_
        refine z_iret dX8_at_29 rfl ?_
        subst hQ0
        exact ⟨rfl, rfl⟩
      · skip
        refine z_iload_n (i := 2) dX8_at_15 rfl rfl ?_
        refine z_iconst (v := 4) dX8_at_16 (by decide) ?_
        refine z_icmp_ge 28 dX8_at_17 (by decide) (fun c_4 => ?_) (fun c_4 => ?_)
        · skip
          refine z_iconst (v := (-1)) dX8_at_28 (by decide) ?_
          refine z_iret dX8_at_29 rfl ?_
          subst hQ0
          exact ⟨rfl, rfl⟩
        · skip
          refine z_aload_n (i := 0) dX8_at_20 rfl rfl ?_
          refine z_iload_n (i := 3) dX8_at_21 rfl rfl ?_
          refine z_callV (st := []) (mc2 := 0) (ms2 := 0) zi8_156 zv_yX8_isPitch (c8_isPitch n K J L R 0 hn0 hk0 _) dX8_at_22 hn0 (congrArg Prod.fst hk0) rfl rfl rfl (by decide) (by decide) (Nat.le_of_ble_eq_true rfl) (by decide) (by decide) (fun r h2 hq => ?_)
          obtain ⟨rfl, rfl⟩ := hq
          rw [h13]
          refine z_if_ne 30 dX8_at_25 (by decide) (fun c_5 => ?_) (fun c_5 => ?_)
          · skip
            subst hQ0
            exfalso
            rcases hb with h | h | h | h | h | h
            · exact c_1 h
            · exact c_2 (k357.mpr h)
            · exact c_3 h
            · exact c_4 (k4_3.mpr h)
            · exact c_5 (by rw [if_pos h])
            · exact c_5 (by rw [mip0 (Or.inr h)])
          · skip
            refine z_iconst (v := (-1)) dX8_at_28 (by decide) ?_
            refine z_iret dX8_at_29 rfl ?_
            subst hQ0
            exact ⟨rfl, rfl⟩
theorem k1m1 (x : Int32) : 1 - (1 - x) = x := by grind
theorem kD_turn {n : Nat} {K : Nat → Nat × Nat} {R : Nat → Nat → Option Nat} {P G D : Nat} {pa ga : Nat → Nat} {ru sp : Nat} {J I : Nat → Nat → Int32} (hG : kG n K R P G pa ga ru sp) (h : kD J I P G D pa ga) {j : Nat} (hj : j < P) : kD (zu (zu J (pa j + 3) 1 (I 17 j)) (pa j + 1) 1 (1 - I 17 j)) (zu (zu I 0 0 0) 17 j (1 - I 17 j)) P G D pa ga := by
  obtain ⟨-, -, -, -, -, -, -, ⟨hgm, -⟩, ⟨hpm, hpi⟩⟩ := hG
  obtain ⟨⟨s1, s2, s3⟩, h2, h3, h4, h5⟩ := h
  have hb := (hpm j hj).2
  have e : ∀ a, a ≠ pa j + 1 → a ≠ pa j + 3 → zu (zu J (pa j + 3) 1 (I 17 j)) (pa j + 1) 1 (1 - I 17 j) a = J a := fun a x y => by rw [zu_ne _ _ _ x, zu_ne _ _ _ y]
  have h28 := hb.1
  refine ⟨⟨by rw [e 0 (by omega) (by omega)]; exact s1, by rw [e 0 (by omega) (by omega)]; exact s2, by rw [e 0 (by omega) (by omega)]; exact s3⟩, fun g hg => ?_, fun p hp => ?_, kTr_cong h4 (e 3 (by omega) (by omega)) (by rw [zu_ne _ _ _ (by decide), zu_ne _ _ _ (by decide)]), kCl_cong h5 (e 4 (by omega) (by omega)) (e 5 (by omega) (by omega)) (e 6 (by omega) (by omega)) (fun a ha => by rw [zu_ne _ _ _ (by omega), zu_ne _ _ _ (by omega)])⟩
  · obtain ⟨-, -, -, gk⟩ := hgm g hg
    exact kGm_cong (h2 g hg) (e _ (kne gk hb.2.2.2.1.2.2.1 (by decide)) (kne gk hb.2.2.2.2.1.2.2.1 (by decide))) (fun a x y => by rw [zu_ne _ _ _ (by omega), zu_ne _ _ _ (by omega)])
  · by_cases ep : p = j
    · subst ep
      obtain ⟨⟨m2, m3, m4⟩, ⟨n1, n2, n3⟩, ⟨o1, o2, o3⟩⟩ := h3 p hp
      refine ⟨⟨?_, ?_, ?_⟩, ⟨?_, ?_, fun k hk => ?_⟩, ⟨?_, ?_, fun k hk => ?_⟩⟩
      · rw [e _ (by omega) (by omega)]; exact m2
      · rw [e _ (by omega) (by omega)]; exact m3
      · rw [e _ (by omega) (by omega)]; exact m4
      · rw [zu_apply, if_pos ⟨rfl, rfl⟩, zu_apply, if_pos ⟨rfl, rfl⟩]
      · rw [zu_apply, if_neg (by omega), zu_ne _ _ _ (by omega)]; exact n2
      · rw [e _ (by omega) (by omega)]; exact n3 k hk
      · rw [zu_ne _ _ _ (by omega), zu_apply, if_pos ⟨rfl, rfl⟩, zu_apply, if_pos ⟨rfl, rfl⟩, k1m1]
      · rw [zu_ne _ _ _ (by omega), zu_apply, if_neg (by omega)]; exact o2
      · rw [e _ (by omega) (by omega)]; exact o3 k hk
    · have hd := hpi p j hp hj ep
      refine kPm_cong (h3 p hp) (fun a x y => e a (by omega) (by omega)) (fun a x y _ _ => ?_) (fun k _ => ⟨by rw [zu_ne _ _ _ (by decide), zu_ne _ _ _ (by decide)], by rw [zu_ne _ _ _ (by decide), zu_ne _ _ _ (by decide)]⟩)
      rw [zu_apply, if_neg (by omega), zu_ne _ _ _ (by omega)]
abbrev x8_turn : ZX := (RX8, cX8_turn, 3, (some .int), "turn", 1, 40, false)
set_option maxHeartbeats 4000000 in
theorem c8_turn (n : Nat) (K : Nat → Nat × Nat) (J : Nat → Nat → Int32) (L : Nat → Nat → Int64) (R : Nat → Nat → Option Nat) (P G : Nat) (pa ga : Nat → Nat) (ru sp : Nat) (hG : kG n K R P G pa ga ru sp) (I : Nat → Nat → Int32) (D : Nat) (hD : kD J I P G D pa ga) (j : Nat) (hj : j < P) : Zm yX8_turn cX8_turn 3 (some .int) 1 40 0 0 [.ref 0, .int (nI j)] ((n, K, J, L, R)) (kQ (some (.int (1 - I 17 j))) n K (zu (zu J (pa j + 3) 1 (I 17 j)) (pa j + 1) 1 (1 - I 17 j)) L R) := by
  refine Zm_of (lg := false) (by decide) (fun _ => by simp [Value.category]) (fun _ => Nat.le_of_ble_eq_true rfl) ?_
  show Zf x8_turn 0 0 0 (zargs [.ref 0, .int (nI j)]) [] ((n, K, J, L, R)) _
  generalize hQ0 : (kQ (some (.int (1 - I 17 j))) n K (zu (zu J (pa j + 3) 1 (I 17 j)) (pa j + 1) 1 (1 - I 17 j)) L R : Option Value → ZH → Prop) = Q0
  obtain ⟨⟨hn28, hP6, hG60⟩, ⟨hk0, hk1, hk2, hk3, hk4, hk5, hk6, hk7⟩, ⟨hr0, hr1, hr2, hr3, hr4, hr5, hr6⟩, ⟨hr7, hr8, hr9, hr10, hr11, hr12⟩, hB8, ⟨hT11, hR17, hT13⟩, ⟨hU18, hU23, hrs⟩, ⟨hgm, hgi⟩, ⟨hpm, hpi⟩⟩ := id hG
  have hn0 : 0 < n := by omega
  have hn1 : 1 < n := by omega
  have hn2 : 2 < n := by omega
  have hn3 : 3 < n := by omega
  have hn4 : 4 < n := by omega
  have hn5 : 5 < n := by omega
  have hn6 : 6 < n := by omega
  have hn7 : 7 < n := by omega
  have hn8 : 8 < n := by omega
  have hk8 : K 8 = (5, 0) := hB8.2.2.2.1
  have hn11 : 11 < n := by omega
  have hk11 : K 11 = (10, 0) := hT11.2.2.1
  obtain ⟨⟨h13, h14, h15⟩, hdg, hdp, hdt, hdc⟩ := id hD
  obtain ⟨hpr, hpb⟩ := hpm j hj
  obtain ⟨hp28, hp5, hpk, htn0, htr0, hpn, hpo⟩ := id hpb
  obtain ⟨htna, hcna, htnk, hcnk, htn⟩ := id htn0
  obtain ⟨htra, hcoa, htrk, hcok, htr⟩ := id htr0
  have hpa : pa j < n := by omega
  obtain ⟨⟨m2, m3, m4⟩, ⟨n1, n2, n3⟩, ⟨o1, o2, o3⟩⟩ := hdp j hj
  have e31 : ∀ v, zu J (pa j + 3) 1 v (pa j + 1) 1 = I 17 j := fun v => by rw [zu_ne _ _ _ (by omega)]; exact n1
  refine z_aload_n (i := 0) dX8_turn_0 rfl rfl ?_
  refine z_iload_n (i := 1) dX8_turn_1 rfl rfl ?_
  refine z_callV (st := []) (mc2 := 0) (ms2 := 0) zi8_156 zv_yX8_isPitch (c8_isPitch n K J L R 0 hn0 hk0 _) dX8_turn_2 hn0 (congrArg Prod.fst hk0) rfl rfl rfl (by decide) (by decide) (Nat.le_of_ble_eq_true rfl) (by decide) (by decide) (fun r h2 hq => ?_)
  obtain ⟨rfl, rfl⟩ := hq
  rw [mip1 h13 hP6 hj]
  refine z_if_ne 10 dX8_turn_5 (by decide) (fun _ => ?_) (fun c_1 => absurd c_1 (by decide))
  refine z_aload_n (i := 0) dX8_turn_10 rfl rfl ?_
  refine z_gR zf8_11.g dX8_turn_11 hn0 hk0 hr0 ?_
  refine z_iload_n (i := 1) dX8_turn_14 rfl rfl ?_
  refine z_aaldP dX8_turn_15 hn1 hk1 (zvin (by omega) (by omega)) (by rw [zcl (by omega)]; exact hpr) ?_
  refine z_astore_n (i := 2) dX8_turn_16 rfl (by decide) rfl ?_
  refine z_aload_n (i := 2) dX8_turn_17 rfl rfl ?_
  refine z_gR zf8_153 dX8_turn_18 hpa hpk hpo ?_
  refine z_aload_n (i := 2) dX8_turn_21 rfl rfl ?_
  refine z_gR zf8_143 dX8_turn_22 hpa hpk hpn ?_
  refine z_gI zf8_159.g dX8_turn_25 htna htnk ?_
  rw [n1]
  refine z_putI zf8_159 dX8_turn_28 (fun h => by cases h) htra htrk ?_
  refine z_aload_n (i := 2) dX8_turn_31 rfl rfl ?_
  refine z_gR zf8_143 dX8_turn_32 hpa hpk hpn ?_
  refine z_iconst (v := 1) dX8_turn_35 (by decide) ?_
  refine z_aload_n (i := 2) dX8_turn_36 rfl rfl ?_
  refine z_gR zf8_143 dX8_turn_37 hpa hpk hpn ?_
  refine z_gI zf8_159.g dX8_turn_40 htna htnk ?_
  rw [e31]
  refine z_isub dX8_turn_43 ?_
  refine z_putI zf8_159 dX8_turn_44 (fun h => by cases h) htna htnk ?_
  refine z_aload_n (i := 2) dX8_turn_47 rfl rfl ?_
  refine z_gR zf8_143 dX8_turn_48 hpa hpk hpn ?_
  refine z_gI zf8_159.g dX8_turn_51 htna htnk ?_
  rw [zu_apply, if_pos ⟨rfl, rfl⟩]
  refine z_iret dX8_turn_54 rfl ?_
  subst hQ0
  exact ⟨rfl, rfl⟩
set_option maxHeartbeats 4000000 in
theorem c8_turn0 (n : Nat) (K : Nat → Nat × Nat) (J : Nat → Nat → Int32) (L : Nat → Nat → Int64) (R : Nat → Nat → Option Nat) (P G : Nat) (pa ga : Nat → Nat) (ru sp : Nat) (hG : kG n K R P G pa ga ru sp) (I : Nat → Nat → Int32) (D : Nat) (hD : kD J I P G D pa ga) (p : Int32) (hp : p < 0 ∨ nI P ≤ p) : Zm yX8_turn cX8_turn 3 (some .int) 1 40 0 0 [.ref 0, .int p] ((n, K, J, L, R)) (kQ (some (.int (-1))) n K J L R) := by
  refine Zm_of (lg := false) (by decide) (fun _ => by simp [Value.category]) (fun _ => Nat.le_of_ble_eq_true rfl) ?_
  show Zf x8_turn 0 0 0 (zargs [.ref 0, .int p]) [] ((n, K, J, L, R)) _
  generalize hQ0 : (kQ (some (.int (-1))) n K J L R : Option Value → ZH → Prop) = Q0
  obtain ⟨⟨hn28, hP6, hG60⟩, ⟨hk0, hk1, hk2, hk3, hk4, hk5, hk6, hk7⟩, ⟨hr0, hr1, hr2, hr3, hr4, hr5, hr6⟩, ⟨hr7, hr8, hr9, hr10, hr11, hr12⟩, hB8, ⟨hT11, hR17, hT13⟩, ⟨hU18, hU23, hrs⟩, ⟨hgm, hgi⟩, ⟨hpm, hpi⟩⟩ := id hG
  have hn0 : 0 < n := by omega
  have hn1 : 1 < n := by omega
  have hn2 : 2 < n := by omega
  have hn3 : 3 < n := by omega
  have hn4 : 4 < n := by omega
  have hn5 : 5 < n := by omega
  have hn6 : 6 < n := by omega
  have hn7 : 7 < n := by omega
  have hn8 : 8 < n := by omega
  have hk8 : K 8 = (5, 0) := hB8.2.2.2.1
  have hn11 : 11 < n := by omega
  have hk11 : K 11 = (10, 0) := hT11.2.2.1
  obtain ⟨⟨h13, h14, h15⟩, hdg, hdp, hdt, hdc⟩ := id hD
  refine z_aload_n (i := 0) dX8_turn_0 rfl rfl ?_
  refine z_iload_n (i := 1) dX8_turn_1 rfl rfl ?_
  refine z_callV (st := []) (mc2 := 0) (ms2 := 0) zi8_156 zv_yX8_isPitch (c8_isPitch n K J L R 0 hn0 hk0 _) dX8_turn_2 hn0 (congrArg Prod.fst hk0) rfl rfl rfl (by decide) (by decide) (Nat.le_of_ble_eq_true rfl) (by decide) (by decide) (fun r h2 hq => ?_)
  obtain ⟨rfl, rfl⟩ := hq
  rw [mip0 (by rw [h13]; exact hp)]
  refine z_if_ne 10 dX8_turn_5 (by decide) (fun c_1 => absurd c_1 (by decide)) (fun _ => ?_)
  refine z_iconst (v := (-1)) dX8_turn_8 (by decide) ?_
  refine z_iret dX8_turn_9 rfl ?_
  subst hQ0
  exact ⟨rfl, rfl⟩
