/-! laying and unlaying keep what holds of the games -/
def kIp (I : Nat → Nat → Int32) (G C : Nat) : Prop := ∀ g, g < G → I 31 g = 2 → ∃ S, S < C ∧ I 32 g = nI S
def kOk (I : Nat → Nat → Int32) (P G C : Nat) : Prop := kIv I P G ∧ kIp I G C
def mF2 (I I' : Nat → Nat → Int32) : Prop := ∀ a, a ≠ 31 → a ≠ 32 → I' a = I a
theorem mF2.rf (I : Nat → Nat → Int32) : mF2 I I := fun _ _ _ => rfl
theorem mF2.tr {I J M : Nat → Nat → Int32} (h : mF2 I J) (h2 : mF2 J M) : mF2 I M := fun a x y => (h2 a x y).trans (h a x y)
theorem mF2_lays (I : Nat → Nat → Int32) (g : Nat) (s : Int32) : mF2 I (mlays I g s) := fun a x y => by unfold mlays; rw [zu_ne _ _ _ y, zu_ne _ _ _ x]
theorem mF2_off (I : Nat → Nat → Int32) (g : Nat) (v w : Int32) : mF2 I (zu (zu I 31 g v) 32 g w) := fun a x y => by rw [zu_ne _ _ _ y, zu_ne _ _ _ x]
theorem l31_lays (I : Nat → Nat → Int32) (g : Nat) (s : Int32) (k : Nat) : mlays I g s 31 k = if k = g then 1 else I 31 k := by
  unfold mlays
  rw [zu_ne _ _ _ (by decide), zu_apply]
  by_cases h : k = g
  · simp [h]
  · simp [h]
theorem l31_off (I : Nat → Nat → Int32) (g : Nat) (v w : Int32) (k : Nat) : zu (zu I 31 g v) 32 g w 31 k = if k = g then v else I 31 k := by
  rw [zu_ne _ _ _ (by decide), zu_apply]
  by_cases h : k = g
  · simp [h]
  · simp [h]
theorem mfP_true {I : Nat → Nat → Int32} {P G g : Nat} {wd : Bool} {but : Int32} {S : Nat} (hG : G ≤ 60) (h : mfP I P G g wd but S = true) : S % 6 < P ∧ (∀ k, k < G → ¬ (mth I k = true ∧ I 32 k = nI S)) ∧ mfr I g (nI S) G = true := by
  unfold mfP msu at h
  simp only [Bool.and_eq_true, decide_eq_true_iff] at h
  obtain ⟨⟨⟨h1, -⟩, -⟩, ⟨-, h5⟩, h6⟩ := h
  refine ⟨h1, fun k hk q => ?_, h6⟩
  rcases mga_spec I (nI S) G with ⟨g', a, b, c, e⟩ | ⟨a, b⟩
  · rw [e] at h5
    exact nIneg (by omega) h5
  · exact b k hk q
theorem kIg_F2 {I I' : Nat → Nat → Int32} {P g : Nat} (h : kIg I P g) (hF : mF2 I I') (hs : ∀ w, w ≤ 50 → I 29 g = nI w → kIs I P w g → kIs I' P w g) : kIg I' P g := by
  obtain ⟨h1, h2, h3, h4, w, hw, h29, h5⟩ := h
  unfold kIg
  rw [hF 25 (by decide) (by decide), hF 26 (by decide) (by decide), hF 27 (by decide) (by decide), hF 28 (by decide) (by decide), hF 29 (by decide) (by decide), hF 30 (by decide) (by decide)]
  exact ⟨h1, h2, h3, h4, w, hw, h29, hs w hw h29 h5⟩
theorem kIs_same {I I' : Nat → Nat → Int32} {P w g : Nat} (h : kIs I P w g) (h31 : I' 31 g = I 31 g) (h32 : I' 32 g = I 32 g) : kIs I' P w g := by
  unfold kIs mth at *
  rw [h31, h32]
  exact h
theorem mhc_F2 {I I' : Nat → Nat → Int32} (hF : mF2 I I') (g : Nat) (c : Int32) : mhc I' g c = mhc I g c := by
  unfold mhc
  rw [hF 25 (by decide) (by decide), hF 26 (by decide) (by decide)]
theorem kOk_lay {I : Nat → Nat → Int32} {P G C g W S : Nat} {wd : Bool} {but : Int32} (h : kOk I P G C) (hG : G ≤ 60) (hg : g < G) (hW : W ≤ 50) (h29 : I 29 g = nI W) (hS : S < 168) (hf : mfP I P G g wd but (168 * W + S) = true) : kOk (mlays I g (nI (168 * W + S))) P G C := by
  obtain ⟨⟨hi, hu, hc⟩, hp⟩ := h
  obtain ⟨f1, f2, f3⟩ := mfP_true hG hf
  rw [mfr_spec] at f3
  have hF := mF2_lays I g (nI (168 * W + S))
  refine ⟨⟨fun k hk => kIg_F2 (hi k hk) hF (fun w hw hw2 hs => ?_), fun a b ha hb hab ma mb => ?_, fun a b ha hb hab ma mb e c => ?_⟩, fun k hk h2 => ?_⟩
  · by_cases e : k = g
    · subst e
      rw [h29, zeq (by omega) (by omega)] at hw2
      subst hw2
      exact Or.inr ⟨by rw [mth_lays, if_pos rfl], S, by rw [l32_lays, if_pos rfl], hS, by omega⟩
    · exact kIs_same hs (by rw [l31_lays, if_neg e]) (by rw [l32_lays, if_neg e])
  · rw [mth_lays] at ma mb
    rw [l32_lays, l32_lays]
    by_cases ea : a = g
    · have eb : b ≠ g := fun q => hab (by rw [ea, q])
      rw [if_neg eb] at mb
      rw [if_pos ea, if_neg eb]
      exact fun q => f2 b hb ⟨mb, q.symm⟩
    · rw [if_neg ea] at ma
      rw [if_neg ea]
      by_cases eb : b = g
      · rw [if_pos eb]
        exact fun q => f2 a ha ⟨ma, q⟩
      · rw [if_neg eb] at mb
        rw [if_neg eb]
        exact hu a b ha hb hab ma mb
  · rw [mth_lays] at ma mb
    rw [l32_lays, l32_lays] at e
    rw [mhc_lays, mhc_lays]
    by_cases ea : a = g
    · have eb : b ≠ g := fun q => hab (by rw [ea, q])
      rw [if_neg eb] at mb
      rw [if_pos ea, if_neg eb] at e
      obtain ⟨u1, u2⟩ := f3 b hb eb mb e.symm
      intro hm
      rw [ea] at hm
      unfold mhc at hm
      rw [Bool.or_eq_true, decide_eq_true_iff, decide_eq_true_iff] at hm
      rcases hm with hm | hm
      · rw [← hm]; exact u1
      · rw [← hm]; exact u2
    · rw [if_neg ea] at ma e
      by_cases eb : b = g
      · rw [if_pos eb] at e
        obtain ⟨u1, u2⟩ := f3 a ha ea ma e
        intro hm
        rw [eb]
        cases hx : mhc I g c with
        | false => rfl
        | true =>
          unfold mhc at hx
          rw [Bool.or_eq_true, decide_eq_true_iff, decide_eq_true_iff] at hx
          rcases hx with hx | hx
          · rw [hx, hm] at u1; cases u1
          · rw [hx, hm] at u2; cases u2
      · rw [if_neg eb] at mb e
        exact hc a b ha hb hab ma mb e c
  · rw [l31_lays] at h2
    by_cases e : k = g
    · rw [if_pos e] at h2
      exact absurd h2 (by decide)
    · rw [if_neg e] at h2
      rw [l32_lays, if_neg e]
      exact hp k hk h2
theorem kOk_off {I : Nat → Nat → Int32} {P G C g : Nat} {v : Int32} (h : kOk I P G C) (hv : v = 0 ∨ v = 3) : kOk (zu (zu I 31 g v) 32 g (-1)) P G C := by
  obtain ⟨⟨hi, hu, hc⟩, hp⟩ := h
  have hF := mF2_off I g v (-1)
  refine ⟨⟨fun k hk => kIg_F2 (hi k hk) hF (fun w hw hw2 hs => ?_), fun a b ha hb hab ma mb => ?_, fun a b ha hb hab ma mb e c => ?_⟩, fun k hk h2 => ?_⟩
  · by_cases e : k = g
    · subst e
      exact Or.inl ⟨by rw [mth_off I k v hv, if_pos rfl], by rw [l31_off, if_pos rfl]; exact hv, by rw [l32_off, if_pos rfl]⟩
    · exact kIs_same hs (by rw [l31_off, if_neg e]) (by rw [l32_off, if_neg e])
  · rw [mth_off I g v hv] at ma mb
    have ea : a ≠ g := fun q => by rw [if_pos q] at ma; cases ma
    have eb : b ≠ g := fun q => by rw [if_pos q] at mb; cases mb
    rw [if_neg ea] at ma
    rw [if_neg eb] at mb
    rw [l32_off, l32_off, if_neg ea, if_neg eb]
    exact hu a b ha hb hab ma mb
  · rw [mth_off I g v hv] at ma mb
    have ea : a ≠ g := fun q => by rw [if_pos q] at ma; cases ma
    have eb : b ≠ g := fun q => by rw [if_pos q] at mb; cases mb
    rw [if_neg ea] at ma
    rw [if_neg eb] at mb
    rw [l32_off, l32_off, if_neg ea, if_neg eb] at e
    rw [mhc_off, mhc_off]
    exact hc a b ha hb hab ma mb e c
  · rw [l31_off] at h2
    by_cases e : k = g
    · rw [if_pos e] at h2
      rcases hv with rfl | rfl <;> exact absurd h2 (by decide)
    · rw [if_neg e] at h2
      rw [l32_off, if_neg e]
      exact hp k hk h2
theorem mnof_eq {I I' : Nat → Nat → Int32} {c how : Int32} : ∀ G, (∀ k, k < G → (I' 31 k = how ↔ I 31 k = how)) → I' 25 = I 25 → I' 26 = I 26 → mnof I' c how G = mnof I c how G
  | 0, _, _, _ => rfl
  | G + 1, h, h25, h26 => by
    simp only [mnof]
    rw [mnof_eq G (fun k hk => h k (by omega)) h25 h26]
    have hm : mhc I' G c = mhc I G c := by unfold mhc; rw [h25, h26]
    have hG := h G (by omega)
    rw [hm]
    congr 1
    by_cases e : I 31 G = how ∧ mhc I G c = true
    · rw [if_pos e, if_pos ⟨hG.mpr e.1, e.2⟩]
    · rw [if_neg e, if_neg (fun q => e ⟨hG.mp q.1, q.2⟩)]
theorem kD_lay {n : Nat} {K : Nat → Nat × Nat} {R : Nat → Nat → Option Nat} {P G D : Nat} {pa ga : Nat → Nat} {ru sp : Nat} {J I : Nat → Nat → Int32} (hG : kG n K R P G pa ga ru sp) (h : kD J I P G D pa ga) {g W S : Nat} (hg : g < G) (hW : W ≤ 50) (h29 : I 29 g = nI W) (hS : S < 168) (h2 : I 31 g ≠ 2) (h3 : I 31 g ≠ 3) : kD (zu (zu J (ga g) 8 (nI S)) (ga g) 7 1) (mlays I g (nI (168 * W + S))) P G D pa ga := by
  obtain ⟨-, -, -, -, -, -, -, ⟨hgm, hgi⟩, ⟨hpm, hpi⟩⟩ := hG
  obtain ⟨⟨s1, s2, s3⟩, hdg, hdp, h4, h5⟩ := h
  have hF := mF2_lays I g (nI (168 * W + S))
  have e : ∀ a, a ≠ ga g → zu (zu J (ga g) 8 (nI S)) (ga g) 7 1 a = J a := fun a x => by rw [zu_ne _ _ _ x, zu_ne _ _ _ x]
  have h28 := (hgm g hg).2.1
  have hgk := (hgm g hg).2.2.2
  refine ⟨⟨by rw [e 0 (by omega)]; exact s1, by rw [e 0 (by omega)]; exact s2, by rw [e 0 (by omega)]; exact s3⟩, fun k hk => ?_, fun p hp => ?_, kTr_cong h4 (e 3 (by omega)) (hF 16 (by decide) (by decide)), ?_⟩
  · by_cases ek : k = g
    · subst ek
      obtain ⟨⟨a1, a2, a3, a4, a5⟩, ⟨b1, b2, b3, b4, b5⟩⟩ := hdg k hk
      have e8 : ∀ j, j ≠ 7 → j ≠ 8 → zu (zu J (ga k) 8 (nI S)) (ga k) 7 1 (ga k) j = J (ga k) j := fun j x y => by rw [zu_apply, if_neg (by omega), zu_apply, if_neg (by omega)]
      unfold kGm
      rw [hF 25 (by decide) (by decide), hF 26 (by decide) (by decide), hF 27 (by decide) (by decide), hF 28 (by decide) (by decide), hF 29 (by decide) (by decide), hF 30 (by decide) (by decide), hF 33 (by decide) (by decide), e8 0 (by decide) (by decide), e8 1 (by decide) (by decide), e8 2 (by decide) (by decide), e8 3 (by decide) (by decide), e8 4 (by decide) (by decide), e8 5 (by decide) (by decide), e8 6 (by decide) (by decide), e8 9 (by decide) (by decide), l31_lays, if_pos rfl, l32_lays, if_pos rfl, if_neg (nIneg (by omega)), h29, krel]
      refine ⟨⟨a1, a2, a3, a4, a5⟩, ⟨by rw [b1, h29], b2, ?_, ?_, b5⟩⟩
      · rw [zu_apply, if_pos ⟨rfl, rfl⟩]
      · rw [zu_apply, if_neg (by omega), zu_apply, if_pos ⟨rfl, rfl⟩]
    · refine kGm_cong (hdg k hk) (e _ (fun q => ek (hgi k g hk hg q))) (fun a x y => ?_)
      by_cases e31 : a = 31
      · rw [e31, l31_lays, if_neg ek]
      · by_cases e32 : a = 32
        · rw [e32, l32_lays, if_neg ek]
        · rw [hF a e31 e32]
  · obtain ⟨-, q1, q2, q3, q4, q5, -, -⟩ := hpm p hp
    obtain ⟨-, -, c1, c2, -⟩ := q4
    obtain ⟨-, -, c3, c4, -⟩ := q5
    refine kPm_cong (hdp p hp) (fun a x y => e a ?_) (fun a x y _ _ => by rw [hF a (by omega) (by omega)]) (fun k _ => ⟨by rw [hF 18 (by decide) (by decide)], by rw [hF 19 (by decide) (by decide)]⟩)
    rcases (show a = pa p ∨ a = pa p + 1 ∨ a = pa p + 2 ∨ a = pa p + 3 ∨ a = pa p + 4 by omega) with rfl | rfl | rfl | rfl | rfl
    · exact kne q3 hgk (by decide)
    · exact kne c1 hgk (by decide)
    · exact kne c2 hgk (by decide)
    · exact kne c3 hgk (by decide)
    · exact kne c4 hgk (by decide)
  · intro c hc
    rw [e 4 (by omega), e 5 (by omega), e 6 (by omega), hF 34 (by decide) (by decide)]
    rw [mnof_eq G (how := 2) (fun k hk => ?_) (hF 25 (by decide) (by decide)) (hF 26 (by decide) (by decide)), mnof_eq G (how := 3) (fun k hk => ?_) (hF 25 (by decide) (by decide)) (hF 26 (by decide) (by decide))]
    · exact h5 c hc
    · rw [l31_lays]
      by_cases ek : k = g
      · rw [if_pos ek, ek]
        exact ⟨fun q => absurd q (by decide), fun q => absurd q h3⟩
      · rw [if_neg ek]
    · rw [l31_lays]
      by_cases ek : k = g
      · rw [if_pos ek, ek]
        exact ⟨fun q => absurd q (by decide), fun q => absurd q h2⟩
      · rw [if_neg ek]
theorem mlays_swap {I : Nat → Nat → Int32} {k g : Nat} (h : k ≠ g) (a b : Int32) : mlays (mlays (munl I k) g a) k b = mlays (mlays I k b) g a := by
  unfold mlays munl
  funext x y
  simp only [zu_apply]
  by_cases h1 : x = 31
  · subst h1
    by_cases h2 : y = k
    · subst h2; simp [h]
    · by_cases h3 : y = g
      · subst h3; simp
      · simp [h2, h3]
  · by_cases h1 : x = 32
    · subst h1
      by_cases h2 : y = k
      · subst h2; simp [h]
      · by_cases h3 : y = g
        · subst h3; simp [h2]
        · simp [h2, h3]
    · simp [*]
