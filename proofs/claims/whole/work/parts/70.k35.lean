theorem mth_lays (I : Nat → Nat → Int32) (g : Nat) (s : Int32) (k : Nat) : mth (mlays I g s) k = if k = g then true else mth I k := by
  unfold mth mlays
  rw [zu_ne _ _ _ (by decide), zu_apply]
  by_cases h : k = g
  · simp [h]
  · simp [h]
theorem mth_off (I : Nat → Nat → Int32) (g : Nat) (v : Int32) (hv : v = 0 ∨ v = 3) (k : Nat) : mth (zu (zu I 31 g v) 32 g (-1)) k = if k = g then false else mth I k := by
  unfold mth
  rw [zu_ne _ _ _ (by decide), zu_apply]
  by_cases h : k = g
  · rcases hv with rfl | rfl <;> simp [h]
  · simp [h]
theorem l32_lays (I : Nat → Nat → Int32) (g : Nat) (s : Int32) (k : Nat) : mlays I g s 32 k = if k = g then s else I 32 k := by
  unfold mlays
  rw [zu_apply]
  by_cases h : k = g
  · simp [h]
  · rw [if_neg (fun q => h q.2), if_neg h, zu_ne _ _ _ (by decide)]
theorem l32_off (I : Nat → Nat → Int32) (g : Nat) (v : Int32) (k : Nat) : zu (zu I 31 g v) 32 g (-1) 32 k = if k = g then -1 else I 32 k := by
  rw [zu_apply]
  by_cases h : k = g
  · simp [h]
  · rw [if_neg (fun q => h q.2), if_neg h, zu_ne _ _ _ (by decide)]
theorem mhc_lays (I : Nat → Nat → Int32) (g : Nat) (s : Int32) (k : Nat) (c : Int32) : mhc (mlays I g s) k c = mhc I k c := by
  unfold mhc mlays
  rw [zu_ne _ _ _ (by decide), zu_ne _ _ _ (by decide), zu_ne _ _ _ (by decide), zu_ne _ _ _ (by decide)]
theorem mhc_off (I : Nat → Nat → Int32) (g : Nat) (v : Int32) (k : Nat) (c : Int32) : mhc (zu (zu I 31 g v) 32 g (-1)) k c = mhc I k c := by
  unfold mhc
  rw [zu_ne _ _ _ (by decide), zu_ne _ _ _ (by decide), zu_ne _ _ _ (by decide), zu_ne _ _ _ (by decide)]
theorem kBw_lay {J I : Nat → Nat → Int32} {P G W g S : Nat} (h : kBw J I G W) (hi : kIg I P g) (hg : g < G) (hn : mth I g = false) (hW : W ≤ 50) (hS : S < 168) : kBw (kput J 9 10 S (kcb I g)) (mlays I g (nI (168 * W + S))) G W := by
  obtain ⟨h1, h2⟩ := h
  unfold kput
  refine ⟨fun S' hS' => ?_, fun d c hd hc => ?_⟩
  · rw [zu_ne _ _ _ (by decide), zu_apply]
    have key : zbt (if (9 : Nat) = 9 ∧ S' / 24 = S / 24 then J 9 (S / 24) ||| 1 <<< (nI (S % 24) &&& 31) else J 9 (S' / 24)) (S' % 24) = (zbt (J 9 (S' / 24)) (S' % 24) || decide (S' = S)) := by
      by_cases e : S' / 24 = S / 24
      · rw [if_pos ⟨rfl, e⟩, zbt_or, zbt_bit (by omega) (by omega), e]
        congr 1
        rw [decide_eq_decide]
        omega
      · rw [if_neg (fun q => e q.2), decide_eq_false (fun q => e (by rw [q])), Bool.or_false]
    rw [key, Bool.or_eq_true, h1 S' hS', decide_eq_true_iff]
    constructor
    · rintro (⟨k, a, b, c⟩ | e)
      · have hk : k ≠ g := fun q => by rw [q, hn] at b; cases b
        exact ⟨k, a, by rw [mth_lays, if_neg hk]; exact b, by rw [l32_lays, if_neg hk]; exact c⟩
      · exact ⟨g, hg, by rw [mth_lays, if_pos rfl], by rw [l32_lays, if_pos rfl, e]⟩
    · rintro ⟨k, a, b, c⟩
      by_cases hk : k = g
      · rw [l32_lays, if_pos hk, zeq (by omega) (by omega)] at c
        exact Or.inr (by omega)
      · rw [mth_lays, if_neg hk] at b
        rw [l32_lays, if_neg hk] at c
        exact Or.inl ⟨k, a, b, c⟩
  · rw [zu_apply]
    have key : zbt (if (10 : Nat) = 10 ∧ d = S / 24 then J 10 (S / 24) ||| kcb I g else zu J 9 (S / 24) (J 9 (S / 24) ||| 1 <<< (nI (S % 24) &&& 31)) 10 d) c = (zbt (J 10 d) c || (decide (d = S / 24) && mhc I g (nI c))) := by
      rw [zu_ne _ _ _ (by decide)]
      by_cases e : d = S / 24
      · rw [if_pos ⟨rfl, e⟩, zbt_or, kcb_b hi hc, decide_eq_true e, Bool.true_and, e]
      · rw [if_neg (fun q => e q.2), decide_eq_false e, Bool.false_and, Bool.or_false]
    rw [key, Bool.or_eq_true, h2 d c hd hc, Bool.and_eq_true, decide_eq_true_iff]
    constructor
    · rintro (⟨k, a, b, e, f⟩ | ⟨e, f⟩)
      · have hk : k ≠ g := fun q => by rw [q, hn] at b; cases b
        exact ⟨k, a, by rw [mth_lays, if_neg hk]; exact b, by rw [l32_lays, if_neg hk]; exact e, by rw [mhc_lays]; exact f⟩
      · exact ⟨g, hg, by rw [mth_lays, if_pos rfl], ⟨S % 24, by omega, by rw [l32_lays, if_pos rfl]; congr 1; omega⟩, by rw [mhc_lays]; exact f⟩
    · rintro ⟨k, a, b, ⟨x, hx, e⟩, f⟩
      rw [mhc_lays] at f
      by_cases hk : k = g
      · rw [l32_lays, if_pos hk, zeq (by omega) (by omega)] at e
        rw [hk] at f
        exact Or.inr ⟨by omega, f⟩
      · rw [mth_lays, if_neg hk] at b
        rw [l32_lays, if_neg hk] at e
        exact Or.inl ⟨k, a, b, ⟨x, hx, e⟩, f⟩
theorem kBw_off {J I : Nat → Nat → Int32} {P G W g S : Nat} {v : Int32} (h : kBw J I G W) (hv : v = 0 ∨ v = 3) (hiv : kIv I P G) (hg : g < G) (hn : mth I g = true) (h32 : I 32 g = nI (168 * W + S)) (hW : W ≤ 50) (hS : S < 168) : kBw (kdrop J 9 10 S (kcb I g)) (zu (zu I 31 g v) 32 g (-1)) G W := by
  obtain ⟨h1, h2⟩ := h
  obtain ⟨hi, hu, hc0⟩ := hiv
  unfold kdrop
  refine ⟨fun S' hS' => ?_, fun d c hd hc => ?_⟩
  · rw [zu_ne _ _ _ (by decide), zu_apply]
    have key : zbt (if (9 : Nat) = 9 ∧ S' / 24 = S / 24 then J 9 (S / 24) &&& (1 <<< (nI (S % 24) &&& 31) ^^^ -1) else J 9 (S' / 24)) (S' % 24) = (zbt (J 9 (S' / 24)) (S' % 24) && !decide (S' = S)) := by
      by_cases e : S' / 24 = S / 24
      · rw [if_pos ⟨rfl, e⟩, zbt_and, zbt_not _ (by omega), zbt_bit (by omega) (by omega), e]
        congr 2
        rw [decide_eq_decide]
        omega
      · rw [if_neg (fun q => e q.2), decide_eq_false (fun q => e (by rw [q])), Bool.not_false, Bool.and_true]
    rw [key, Bool.and_eq_true, h1 S' hS', Bool.not_eq_true', decide_eq_false_iff_not]
    constructor
    · rintro ⟨⟨k, a, b, c⟩, e⟩
      have hk : k ≠ g := fun q => by
        rw [q, h32, zeq (by omega) (by omega)] at c
        omega
      exact ⟨k, a, by rw [mth_off I g v hv, if_neg hk]; exact b, by rw [l32_off, if_neg hk]; exact c⟩
    · rintro ⟨k, a, b, c⟩
      have hk : k ≠ g := fun q => by rw [mth_off I g v hv, if_pos q] at b; cases b
      rw [mth_off I g v hv, if_neg hk] at b
      rw [l32_off, if_neg hk] at c
      exact ⟨⟨k, a, b, c⟩, fun q => hu k g a hg hk b hn (by rw [c, h32, q])⟩
  · rw [zu_apply]
    have key : zbt (if (10 : Nat) = 10 ∧ d = S / 24 then J 10 (S / 24) &&& (kcb I g ^^^ -1) else zu J 9 (S / 24) (J 9 (S / 24) &&& (1 <<< (nI (S % 24) &&& 31) ^^^ -1)) 10 d) c = (zbt (J 10 d) c && !(decide (d = S / 24) && mhc I g (nI c))) := by
      rw [zu_ne _ _ _ (by decide)]
      by_cases e : d = S / 24
      · rw [if_pos ⟨rfl, e⟩, zbt_and, zbt_not _ hc, kcb_b (hi g hg) hc, decide_eq_true e, Bool.true_and, e]
      · rw [if_neg (fun q => e q.2), decide_eq_false e, Bool.false_and, Bool.not_false, Bool.and_true]
    rw [key, Bool.and_eq_true, h2 d c hd hc, Bool.not_eq_true', Bool.and_eq_false_iff, decide_eq_false_iff_not]
    constructor
    · rintro ⟨⟨k, a, b, ⟨x, hx, e⟩, f⟩, e2⟩
      have hk : k ≠ g := fun q => by
        rw [q, h32, zeq (by omega) (by omega)] at e
        rw [q] at f
        rcases e2 with e2 | e2
        · omega
        · rw [e2] at f; cases f
      exact ⟨k, a, by rw [mth_off I g v hv, if_neg hk]; exact b, ⟨x, hx, by rw [l32_off, if_neg hk]; exact e⟩, by rw [mhc_off]; exact f⟩
    · rintro ⟨k, a, b, ⟨x, hx, e⟩, f⟩
      have hk : k ≠ g := fun q => by rw [mth_off I g v hv, if_pos q] at b; cases b
      rw [mth_off I g v hv, if_neg hk] at b
      rw [l32_off, if_neg hk] at e
      rw [mhc_off] at f
      refine ⟨⟨k, a, b, ⟨x, hx, e⟩, f⟩, ?_⟩
      by_cases ed : d = S / 24
      · refine Or.inr (hc0 k g a hg hk b hn ?_ (nI c) f)
        rw [e, h32, kday hW hd hx, kdiv24 (by omega), show (168 * W + S) / 24 = 7 * W + d by omega]
      · exact Or.inl ed
/-! the first slot: the board's and the reference's -/
theorem mfind_shift {p q : Nat → Bool} {d : Nat} : ∀ (k lo : Nat), (∀ x, lo ≤ x → x < lo + k → p x = q (d + x)) → (mfind p lo k = -1 ∧ mfind q (d + lo) k = -1) ∨ ∃ x, lo ≤ x ∧ x < lo + k ∧ q (d + x) = true ∧ mfind p lo k = nI x ∧ mfind q (d + lo) k = nI (d + x)
  | 0, lo, _ => Or.inl ⟨rfl, rfl⟩
  | k + 1, lo, h => by
    have h0 := h lo (Nat.le_refl _) (by omega)
    by_cases hp : p lo = true
    · rw [hp] at h0
      exact Or.inr ⟨lo, Nat.le_refl _, by omega, h0.symm, mfind_hit hp (by omega), mfind_hit h0.symm (by omega)⟩
    · have hp' : p lo = false := by simpa using hp
      rw [hp'] at h0
      rw [mfind_miss hp' (by omega), mfind_miss h0.symm (by omega), Nat.add_sub_cancel, Nat.add_assoc]
      rcases mfind_shift k (lo + 1) (fun x hx hx2 => h x (by omega) (by omega)) with ⟨a, b⟩ | ⟨x, a, b, c, e, f⟩
      · exact Or.inl ⟨a, b⟩
      · exact Or.inr ⟨x, by omega, by omega, c, e, f⟩
theorem zbt_shr {x : Int32} {l : Nat} (hl : l < 32) : zbt (x >>> (nI l &&& 31)) 0 = zbt x l := by
  unfold zbt
  have e : (x >>> (nI l &&& 31)).toBitVec = x.toBitVec.sshiftRight' ((nI l &&& 31).toBitVec.smod 32) := rfl
  rw [e, BitVec.sshiftRight']
  rw [zsl l hl, BitVec.getLsbD_sshiftRight]
  simp [hl]
theorem zbt_1 (x : Int32) : (x &&& 1 = 1) ↔ zbt x 0 = true := by
  constructor
  · intro h
    cases hb : zbt x 0 with
    | true => rfl
    | false =>
      rw [(zbt_a1 x).mpr hb] at h
      exact absurd h (by decide)
  · intro h
    refine zbt_ext (fun i hi => ?_)
    rw [zbt_and, zbt_one i hi]
    by_cases e : i = 0
    · subst e; rw [h]; rfl
    · rw [decide_eq_false e, Bool.and_false]
theorem kwish {x : Int32} {d h : Nat} (hd : d < 7) (hh : h < 4) : decide ((x >>> ((4 * nI d + nI h) &&& 31)) &&& 1 = 1) = zbt x (4 * d + h) := by
  rw [zl4, pk_mul, nI_add, ← zbt_shr (x := x) (show 4 * d + h < 32 by omega)]
  cases hb : zbt (x >>> (nI (4 * d + h) &&& 31)) 0 with
  | true => exact decide_eq_true ((zbt_1 _).mpr hb)
  | false => exact decide_eq_false (fun q => by rw [(zbt_1 _).mp q] at hb; cases hb)
theorem kfr_eq {J I : Nat → Nat → Int32} {P G W g S : Nat} (hB : kBw J I G W) (hi : ∀ k, k < G → kIg I P k) (hg : g < G) (hW : W ≤ 50) (hS : S < 168) (hgd : ¬ (mth I g = true ∧ ∃ x, x < 24 ∧ I 32 g = nI (168 * W + 24 * (S / 24) + x))) : decide (J 10 (S / 24) &&& kcb I g = 0) = mfr I g (nI (168 * W + S)) G := by
  have hd : S / 24 < 7 := by omega
  have hS24 : nI (168 * W + S) / 24 = nI (7 * W + S / 24) := by rw [kdiv24 (by omega), show (168 * W + S) / 24 = 7 * W + S / 24 by omega]
  have hcb := fun c hc => kcb_b (c := c) (hi g hg) hc
  cases hf : mfr I g (nI (168 * W + S)) G with
  | true =>
    rw [mfr_spec] at hf
    refine decide_eq_true ((zbt_z _).mpr (fun c hc => ?_))
    rw [zbt_and, hcb c hc]
    cases h10 : zbt (J 10 (S / 24)) c with
    | false => rfl
    | true =>
      obtain ⟨k, a, b, ⟨x, hx, e⟩, f⟩ := (hB.2 (S / 24) c hd hc).mp h10
      have hk : k ≠ g := fun q => hgd (by rw [q] at b e; exact ⟨b, x, hx, e⟩)
      obtain ⟨f1, f2⟩ := hf k a hk b (by rw [e, kday hW hd hx, hS24])
      rw [Bool.true_and]
      cases hm : mhc I g (nI c) with
      | false => rfl
      | true =>
        unfold mhc at hm
        rw [Bool.or_eq_true, decide_eq_true_iff, decide_eq_true_iff] at hm
        rcases hm with hm | hm
        · rw [hm, f] at f1; cases f1
        · rw [hm, f] at f2; cases f2
  | false =>
    refine decide_eq_false (fun hz => ?_)
    rw [zbt_z] at hz
    have : mfr I g (nI (168 * W + S)) G = true := by
      rw [mfr_spec]
      intro k hk hkg hth hday
      obtain ⟨w', S', hw', -, hS', -, h32⟩ := kthere (hi k hk) hth
      rw [h32, hS24, kdiv24 (by omega), zeq (by omega) (by omega)] at hday
      obtain ⟨⟨a, b, ha, hb, -, h25, h26⟩, -⟩ := id (hi g hg)
      have hbit : ∀ c, c < 16 → mhc I g (nI c) = true → mhc I k (nI c) = false := fun c hc hm => by
        cases hmk : mhc I k (nI c) with
        | false => rfl
        | true =>
          have h10 := (hB.2 (S / 24) c hd (by omega)).mpr ⟨k, hk, hth, ⟨168 * w' + S' - (168 * W + 24 * (S / 24)), by omega, by rw [h32]; congr 1; omega⟩, hmk⟩
          have := hz c (by omega)
          rw [zbt_and, h10, hcb c (by omega), hm] at this
          cases this
      rw [h25, h26]
      exact ⟨hbit a ha (by unfold mhc; rw [h25]; simp), hbit b hb (by unfold mhc; rw [h26]; simp)⟩
    rw [hf] at this
    cases this
theorem kfP_eq {J I : Nat → Nat → Int32} {P G W g S ag : Nat} {ws but but2 : Int32} {wished : Bool} (hG60 : G ≤ 60) (hB : kBw J I G W) (hT : kTr J I P) (hi : ∀ k, k < G → kIg I P k) (hg : g < G) (hW : W ≤ 50) (hS : S < 168) (hgd : ¬ (mth I g = true ∧ ∃ x, x < 24 ∧ I 32 g = nI (168 * W + 24 * (S / 24) + x))) (hag : ag ≤ 2) (h27 : I 27 g = nI ag) (hws : zbt ws (4 * (S / 24) + S / 6 % 4) = (!wished || zbt (I 30 g) (4 * (S / 24) + S / 6 % 4))) (hbut : nI S = but ↔ nI (168 * W + S) = but2) : kfP J 9 10 (kcb I g) (J 3 ag) ws but S = mfP I P G g wished but2 (168 * W + S) := by
  unfold kfP mfP msu
  rw [kfr_eq hB hi hg hW hS hgd, hT ag (S % 6) (by omega) (by omega), hws, show (168 * W + S) % 6 = S % 6 by omega, show (168 * W + S) / 24 % 7 = S / 24 by omega, show (168 * W + S) / 6 % 4 = S / 6 % 4 by omega, kwish (by omega) (by omega), h27]
  have e1 : decide (¬ nI S = but) = decide (¬ nI (168 * W + S) = but2) := by rw [decide_eq_decide, hbut]
  have e2 : (!zbt (J 9 (S / 24)) (S % 24)) = decide (mga I (nI (168 * W + S)) G < 0) := by
    rcases mga_spec I (nI (168 * W + S)) G with ⟨k, a, b, c, e⟩ | ⟨a, b⟩
    · rw [(hB.1 S hS).mpr ⟨k, a, b, c⟩, e, decide_eq_false (nIneg (by omega))]
      rfl
    · have : zbt (J 9 (S / 24)) (S % 24) = false := by
        cases hb : zbt (J 9 (S / 24)) (S % 24) with
        | false => rfl
        | true =>
          obtain ⟨k, c, e, f⟩ := (hB.1 S hS).mp hb
          exact absurd ⟨e, f⟩ (b k c)
      rw [this, a]
      decide
  rw [e1, e2]
  generalize mfr I g (nI (168 * W + S)) G = b1
  generalize decide (S % 6 < P) = b2
  generalize decide (¬ I 16 (S % 6) < nI ag) = b3
  generalize (!wished || zbt (I 30 g) (4 * (S / 24) + S / 6 % 4)) = b4
  generalize decide (mga I (nI (168 * W + S)) G < 0) = b5
  generalize decide (¬ nI (168 * W + S) = but2) = b6
  cases b1 <;> cases b2 <;> cases b3 <;> cases b4 <;> cases b5 <;> cases b6 <;> rfl
