/-! a day -/
def mF3 (P G : Nat) (I I' : Nat → Nat → Int32) : Prop := (∀ a, a ≤ 13 → I' a = I a) ∧ (∀ p, P ≤ p → ∀ a, 20 ≤ a → a ≤ 24 → I' a p = I a p) ∧ ∀ g, G ≤ g → I' 33 g = I 33 g
theorem mF3.rf {P G : Nat} (I : Nat → Nat → Int32) : mF3 P G I I := ⟨fun _ _ => rfl, fun _ _ _ _ _ => rfl, fun _ _ => rfl⟩
theorem mF3.tr {P G : Nat} {I J M : Nat → Nat → Int32} (h : mF3 P G I J) (h2 : mF3 P G J M) : mF3 P G I M := ⟨fun a x => (h2.1 a x).trans (h.1 a x), fun p x a y z => (h2.2.1 p x a y z).trans (h.2.1 p x a y z), fun g x => (h2.2.2 g x).trans (h.2.2 g x)⟩
theorem mF3.put {P G : Nat} {I J : Nat → Nat → Int32} (h : mF3 P G I J) (a k : Nat) (v : Int32) (ha : 14 ≤ a) (hp : 20 ≤ a → a ≤ 24 → k < P) (hg : a = 33 → k < G) : mF3 P G I (zu J a k v) := by
  refine h.tr ⟨fun b hb => zu_ne _ _ _ (by omega), fun p hpp b h1 h2 => ?_, fun g hgg => ?_⟩
  · rw [zu_apply, if_neg]
    rintro ⟨rfl, rfl⟩
    have := hp h1 h2
    omega
  · rw [zu_apply, if_neg]
    rintro ⟨rfl, rfl⟩
    have := hg rfl
    omega
theorem mF3.row {P G : Nat} {I J M : Nat → Nat → Int32} (h : mF3 P G I J) (A : Nat) (hA : A = 14 ∨ A = 15 ∨ A = 18 ∨ A = 19) (hM : ∀ a, a ≠ A → M a = J a) : mF3 P G I M := h.tr ⟨fun b hb => hM b (by omega), fun p hp b h1 h2 => by rw [hM b (by omega)], fun g hg => by rw [hM 33 (by omega)]⟩
theorem mF3_hour {P G D : Nat} (I : Nat → Nat → Int32) (ts : List MLn) (hr p : Nat) (warm wet : Int32) (hG : G ≤ 60) (hp : p < P) : mF3 P G I (mhour I P G D ts hr p warm wet) := by
  have h1 : mF3 P G I (mkn I D hr p warm wet (mga I (nI (24 * D + 6 * hr + p)) G)) := (mF3.rf I).row 14 (by omega) (fun a ha => by unfold mkn; simp only [zu_ne _ _ _ ha])
  have h2 : mF3 P G I (mshut ts (mkn I D hr p warm wet (mga I (nI (24 * D + 6 * hr + p)) G)) (nI p)).1 := h1.row 15 (by omega) (fun a ha => mshut_ne _ _ _ a ha)
  unfold mhour
  dsimp only
  generalize hx : mshut ts (mkn I D hr p warm wet (mga I (nI (24 * D + 6 * hr + p)) G)) (nI p) = x at h2 ⊢
  generalize hgg : mga I (nI (24 * D + 6 * hr + p)) G = g
  have hn : ¬ g < 0 → g.toNatClampNeg < G := fun q => by
    rw [← hgg] at q ⊢
    obtain ⟨j, hj, e⟩ := mga_j q
    rw [e, zcl (by omega)]
    exact hj
  split
  · have h3 := h2.put 24 p (x.1 24 p + 1) (by omega) (fun _ _ => hp) (by omega)
    split
    · exact h3
    · rename_i hg0
      have h5 : ∀ (J : Nat → Nat → Int32) (c : Nat), mF3 P G I J → mF3 P G I (mlost J c) := fun J c q => q.put 34 c _ (by omega) (by omega) (by omega)
      have h6 : ∀ (J : Nat → Nat → Int32) (k : Nat), k < G → mF3 P G I J → mF3 P G I (mmv J P G D k) := fun J k hk q => by
        unfold mmv
        split
        · exact (q.put 31 k _ (by omega) (by omega) (by omega)).put 32 k _ (by omega) (by omega) (by omega)
        · unfold mlays
          exact ((q.put 31 k _ (by omega) (by omega) (by omega)).put 32 k _ (by omega) (by omega) (by omega)).put 33 k _ (by omega) (by omega) (fun _ => hk)
      exact h6 _ _ (hn hg0) (h5 _ _ (h5 _ _ h3))
  · split
    · exact h2
    · have h5 : ∀ (J : Nat → Nat → Int32) (k : Nat), mF3 P G I J → mF3 P G I (mplay J p k wet) := fun J k q => by
        unfold mplay
        refine mF3.put ?_ 20 p _ (by omega) (fun _ _ => hp) (by omega)
        refine mF3.row ?_ 18 (by omega) (fun a ha => mwI_ne _ ha)
        exact ((q.put 31 k _ (by omega) (by omega) (by omega)).put 22 p _ (by omega) (fun _ _ => hp) (by omega)).put 23 p _ (by omega) (fun _ _ => hp) (by omega)
      have h6 : ∀ (J : Nat → Nat → Int32) (k : Nat), mF3 P G I J → mF3 P G I (mplay2 J p k wet) := fun J k q => by
        unfold mplay2
        refine mF3.put ?_ 21 p _ (by omega) (fun _ _ => hp) (by omega)
        exact q.row 19 (by omega) (fun a ha => mwI_ne _ ha)
      exact h6 _ _ (h5 _ _ h2)
theorem mF3_dp {P G D : Nat} (I : Nat → Nat → Int32) (ts : List MLn) (hr : Nat) (warm wet : Int32) (hG : G ≤ 60) : ∀ j, j ≤ P → mF3 P G I (mdp I P G D ts hr warm wet j)
  | 0, _ => mF3.rf I
  | j + 1, h => (mF3_dp I ts hr warm wet hG j (by omega)).tr (mF3_hour _ ts hr j warm wet hG (by omega))
theorem mF3_dh {P G D : Nat} (I : Nat → Nat → Int32) (ts : List MLn) (warm wet : Int32) (hG : G ≤ 60) : ∀ i, mF3 P G I (mdh I P G D ts warm wet i)
  | 0 => mF3.rf I
  | i + 1 => (mF3_dh I ts warm wet hG i).tr (mF3_dp _ ts i warm wet hG P (Nat.le_refl _))
theorem mF3_pn {P G D : Nat} (I : Nat → Nat → Int32) : mF3 P G I (mpn I D P) := by
  refine ⟨fun a ha => mpn_ne I D P (by omega), fun p hp a h1 h2 => ?_, fun g hg => by rw [mpn_ne I D P (by decide)]⟩
  unfold mpn
  rw [if_neg (by omega)]
theorem mF3_g2 {P G : Nat} (I : Nat → Nat → Int32) (warm wet : Int32) (m : Nat) : mF3 P G I (mg2 I warm wet m) := by
  have e : ∀ a, a ≠ 18 → a ≠ 19 → mg2 I warm wet m a = I a := fun a x y => by
    funext j
    unfold mg2
    rw [if_neg (by omega)]
  exact ⟨fun a ha => e a (by omega) (by omega), fun p hp a h1 h2 => by rw [e a (by omega) (by omega)], fun g hg => by rw [e 33 (by decide) (by decide)]⟩
theorem q_nlt {x : Int32} {N : Nat} (hN : N < 1000) (h : nI (N + 1) ≤ x) : nI N < x := Int32.lt_of_lt_of_le ((zlt (by omega) (by omega)).mpr (by omega)) h
theorem q_day {hk hm : ZH} (hz : zRel hk hm) (warm wet : Int32) : zAns yX8_day cX8_day 6 6 240 yX9_day cX9_day 5 6 240 [.int warm, .int wet] hk hm := by
  obtain ⟨n, K, J, L, R, P, G, D, pa, ga, ru, sp, I, L9, T, ch, hd, ts, rfl, rfl, hr⟩ := hz
  obtain ⟨hG, hKD, hok, hie, hiz, ⟨h24, h35, h34, hD⟩, hta, htx, htq, hw5, hclo⟩ := id hr
  have hP6 : P ≤ 6 := hG.1.2.1
  have hG6 : G ≤ 60 := hG.1.2.2
  have hK9 := c9_day I L9 P G D hd ts warm wet (kRel_mok hr)
  have hbad : (warm < 0 ∨ 10 < warm ∨ wet < 0 ∨ 10 < wet ∨ D = 357) → zAns yX8_day cX8_day 6 6 240 yX9_day cX9_day 5 6 240 [.int warm, .int wet] (n, K, J, L, R) (mh I L9) := fun hb => by
    have hB : mdayB I warm wet := by
      unfold mdayB
      rw [h34]
      rcases hb with q | q | q | q | q
      · exact Or.inl q
      · exact Or.inr (Or.inl q)
      · exact Or.inr (Or.inr (Or.inl q))
      · exact Or.inr (Or.inr (Or.inr (Or.inl q)))
      · exact Or.inr (Or.inr (Or.inr (Or.inr (by rw [q]; rfl))))
    rw [if_pos hB, if_pos hB] at hK9
    exact zAns_q hr _ (c8_day0 n K J L R P G pa ga ru sp hG D warm wet hD hKD.1.2.2 hb) hK9
  by_cases hD7 : D = 357
  · exact hbad (by simp [hD7])
  rcases pk_ix warm (n := 11) (by omega) with h1 | h1 | ⟨wm, hwm, rfl⟩
  · exact hbad (Or.inl h1)
  · exact hbad (Or.inr (Or.inl (q_nlt (N := 10) (by omega) h1)))
  rcases pk_ix wet (n := 11) (by omega) with h2 | h2 | ⟨wt, hwt, rfl⟩
  · exact hbad (Or.inr (Or.inr (Or.inl h2)))
  · exact hbad (Or.inr (Or.inr (Or.inr (Or.inl (q_nlt (N := 10) (by omega) h2)))))
  have hB : ¬ mdayB I (nI wm) (nI wt) := by
    unfold mdayB
    rw [h34]
    rintro (q | q | q | q | q)
    · exact absurd ((zlt (b := 0) (by omega) (by omega)).mp q) (by omega)
    · exact absurd ((zlt (a := 10) (by omega) (by omega)).mp q) (by omega)
    · exact absurd ((zlt (b := 0) (by omega) (by omega)).mp q) (by omega)
    · exact absurd ((zlt (a := 10) (by omega) (by omega)).mp q) (by omega)
    · exact hD7 ((zeq (b := 357) (by omega) (by omega)).mp q)
  rw [if_neg hB, if_neg hB] at hK9
  have hr0 := kRel_thr hr 0
  obtain ⟨-, hKD0, hok0, hie0, hiz0, ⟨i24, i35, i34, -⟩, hta0, -, htq0, -⟩ := id hr0
  have hK8 := c8_day n K J L R P G pa ga ru sp hG (zu I 0 0 0) D wm wt ts (by omega) (by omega) (by omega) hKD0 hok0 htx hie0
  unfold mdayI at hK9
  rw [mg2_e] at hK9
  have hF : mF3 P G (zu I 0 0 0) (mg2 (mdh (mpn (zu I 0 0 0) D P) P G D ts (nI wm) (nI wt) 4) (nI wm) (nI wt) (24 * P)) := ((mF3_pn _).tr (mF3_dh _ ts _ _ hG6 4)).tr (mF3_g2 _ _ _ _)
  generalize hI : mg2 (mdh (mpn (zu I 0 0 0) D P) P G D ts (nI wm) (nI wt) 4) (nI wm) (nI wt) (24 * P) = I' at hK8 hK9 hF
  refine ⟨0, 0, _, _, by omega, by omega, hK8, hK9, fun r h1 r' h2 q1 q2 => ?_⟩
  obtain ⟨rfl, M, rfl, f1, f2, f3, f4, f5, f6⟩ := q1
  obtain ⟨rfl, rfl⟩ := q2
  refine ⟨⟨_, rfl, rfl⟩, n, K, M, L, R, P, G, D + 1, pa, ga, ru, sp, _, L9, T, ch, hd, ts, rfl, rfl, ?_⟩
  have e : ∀ a, a ≠ 0 → zu I' 0 34 (nI (D + 1)) a = I' a := fun a ha => zu_ne _ _ _ ha
  have e0 : ∀ k, k ≠ 34 → zu I' 0 34 (nI (D + 1)) 0 k = I' 0 k := fun k hk => by rw [zu_apply, if_neg (fun q => hk q.2)]
  refine ⟨hG, f1, f2, f4, ⟨fun p x y => ?_, fun g x y => ?_⟩, ⟨by rw [e0 24 (by decide), hF.1 0 (by decide)]; exact i24, by rw [e0 35 (by decide), hF.1 0 (by decide)]; exact i35, by rw [zu_apply, if_pos ⟨rfl, rfl⟩], by omega⟩, kTa_I hta0 (by rw [f5]) f6 (by rw [e0 2 (by decide), hF.1 0 (by decide)]) (by rw [e 1 (by decide), hF.1 1 (by decide)]), f3, mtq_I htq0 (by rw [e0 15 (by decide), hF.1 0 (by decide)]) (fun a _ _ => by rw [e a (by omega), hF.1 a (by omega)]), hw5, hclo⟩
  · rw [e 20 (by decide), e 21 (by decide), e 22 (by decide), e 23 (by decide), e 24 (by decide), hF.2.1 p x 20 (by decide) (by decide), hF.2.1 p x 21 (by decide) (by decide), hF.2.1 p x 22 (by decide) (by decide), hF.2.1 p x 23 (by decide) (by decide), hF.2.1 p x 24 (by decide) (by decide)]
    exact hiz0.1 p x y
  · rw [e 33 (by decide), hF.2.2 g x]
    exact hiz0.2 g x y
/-! a pitch, a game -/
theorem kOk_P {P P' G C : Nat} {I : Nat → Nat → Int32} (h : kOk I P G C) (hP : P ≤ P') : kOk I P' G C := by
  obtain ⟨⟨h1, h2, h3⟩, h4⟩ := h
  refine ⟨⟨fun g hg => ?_, h2, h3⟩, h4⟩
  obtain ⟨a, b, c, d, w, hw, e, hs⟩ := h1 g hg
  refine ⟨a, b, c, d, w, hw, e, hs.imp id (fun q => ⟨q.1, ?_⟩)⟩
  obtain ⟨-, S, s1, s2, s3⟩ := q
  exact ⟨S, s1, s2, by omega⟩
theorem mpit_ne (I : Nat → Nat → Int32) (P : Nat) (age st : Int32) {a : Nat} (h : a ≠ 0 ∧ (a < 16 ∨ 19 < a)) : mpit I P age st a = I a := by
  unfold mpit
  rw [zu_ne _ _ _ h.1, mfl_ne _ _ _ (by omega) (by omega), zu_ne _ _ _ (by omega), zu_ne _ _ _ (by omega), zu_ne _ _ _ h.1]
theorem mpit_0 (I : Nat → Nat → Int32) (P : Nat) (age st : Int32) {k : Nat} (h : k ≠ 0) (h2 : k ≠ 24) : mpit I P age st 0 k = I 0 k := by
  unfold mpit
  rw [zu_apply, if_neg (fun q => h2 q.2), mfl_ne _ _ _ (by decide) (by decide), zu_ne _ _ _ (by decide), zu_ne _ _ _ (by decide), zu_apply, if_neg (fun q => h q.2)]
theorem mpit_24 (I : Nat → Nat → Int32) (P : Nat) (age st : Int32) : mpit I P age st 0 24 = nI (P + 1) := by
  unfold mpit
  rw [zu_apply, if_pos ⟨rfl, rfl⟩]
theorem kIe_pit {I : Nat → Nat → Int32} {P : Nat} (h : kIe I P) (age st : Int32) : kIe (mpit I P age st) (P + 1) := by
  intro k hk
  have e : ∀ a, a = 18 ∨ a = 19 → mpit I P age st a k = if 24 * P ≤ k ∧ k < 24 * P + 24 then 800 else I a k := fun a ha => by
    unfold mpit
    rw [zu_ne _ _ _ (by omega)]
    unfold mfl
    by_cases hc : 24 * P ≤ k ∧ k < 24 * P + 24
    · rw [if_pos ⟨ha, hc⟩, if_pos hc]
    · rw [if_neg (fun q => hc q.2), if_neg hc, zu_ne _ _ _ (by omega), zu_ne _ _ _ (by omega), zu_ne _ _ _ (by omega)]
  rw [e 18 (by decide), e 19 (by decide)]
  by_cases hc : 24 * P ≤ k ∧ k < 24 * P + 24
  · rw [if_pos hc, if_pos hc]
    exact ⟨⟨800, by omega, rfl⟩, 800, by omega, rfl⟩
  · rw [if_neg hc, if_neg hc]
    exact h k (by omega)
theorem q_pitch {hk hm : ZH} (hz : zRel hk hm) (age st : Int32) : zAns yX8_pitch cX8_pitch 5 3 120 yX9_pitch cX9_pitch 4 0 0 [.int age, .int st] hk hm := by
  obtain ⟨n, K, J, L, R, P, G, D, pa, ga, ru, sp, I, L9, T, ch, hd, ts, rfl, rfl, hr⟩ := hz
  obtain ⟨hG, hKD, hok, hie, hiz, ⟨h24, h35, h34, hD⟩, hta, htx, htq, hw5, hclo⟩ := id hr
  have hP6 : P ≤ 6 := hG.1.2.1
  have hG6 : G ≤ 60 := hG.1.2.2
  have hK9 := c9_pitch I L9 P age st hP6 h24
  have hbad : (age < 0 ∨ 2 < age ∨ st < 0 ∨ 1 < st ∨ P = 6 ∨ 0 < D) → zAns yX8_pitch cX8_pitch 5 3 120 yX9_pitch cX9_pitch 4 0 0 [.int age, .int st] (n, K, J, L, R) (mh I L9) := fun hb => by
    have hB : mpB I age st := by
      unfold mpB
      rw [h24, h34]
      rcases hb with q | q | q | q | q | q
      · exact Or.inl q
      · exact Or.inr (Or.inl q)
      · exact Or.inr (Or.inr (Or.inl q))
      · exact Or.inr (Or.inr (Or.inr (Or.inl q)))
      · exact Or.inr (Or.inr (Or.inr (Or.inr (Or.inl (by rw [q]; rfl)))))
      · exact Or.inr (Or.inr (Or.inr (Or.inr (Or.inr ((zlt (a := 0) (by omega) (by omega)).mpr q)))))
    rw [if_pos hB, if_pos hB] at hK9
    exact zAns_q hr _ (c8_pitch0 n K J L R P G pa ga ru sp hG I D age st hD hKD hb) hK9
  by_cases hPP : P = 6
  · exact hbad (by simp [hPP])
  by_cases hDD : 0 < D
  · exact hbad (by simp [hDD])
  obtain rfl : D = 0 := by omega
  rcases pk_ix age (n := 3) (by omega) with h1 | h1 | ⟨ag, hag, rfl⟩
  · exact hbad (Or.inl h1)
  · exact hbad (Or.inr (Or.inl (q_nlt (N := 2) (by omega) h1)))
  rcases pk_ix st (n := 2) (by omega) with h2 | h2 | ⟨s, hs, rfl⟩
  · exact hbad (Or.inr (Or.inr (Or.inl h2)))
  · exact hbad (Or.inr (Or.inr (Or.inr (Or.inl (q_nlt (N := 1) (by omega) h2)))))
  have hB : ¬ mpB I (nI ag) (nI s) := by
    unfold mpB
    rw [h24, h34]
    rintro (q | q | q | q | q | q)
    · exact absurd ((zlt (b := 0) (by omega) (by omega)).mp q) (by omega)
    · exact absurd ((zlt (a := 2) (by omega) (by omega)).mp q) (by omega)
    · exact absurd ((zlt (b := 0) (by omega) (by omega)).mp q) (by omega)
    · exact absurd ((zlt (a := 1) (by omega) (by omega)).mp q) (by omega)
    · exact hPP ((zeq (b := 6) (by omega) (by omega)).mp q)
    · exact absurd ((zlt (a := 0) (by omega) (by omega)).mp q) (by omega)
  rw [if_neg hB, if_neg hB] at hK9
  have hK8 := c8_pitch n K J L R P G pa ga ru sp hG I ag s (by omega) (by omega) (by omega) hiz hKD
  refine ⟨5, 59, _, _, by omega, by omega, hK8, hK9, fun r h1 r' h2 q1 q2 => ?_⟩
  obtain ⟨rfl, K', M, L', R', rfl, f1, f2, f4, f3⟩ := q1
  obtain ⟨rfl, rfl⟩ := q2
  refine ⟨⟨_, rfl, rfl⟩, n + 5, K', M, L', R', P + 1, G, 0, va_up pa P n, ga, ru, sp, _, L9, T, ch, hd, ts, rfl, rfl, ?_⟩
  have e : ∀ {a : Nat}, (a ≠ 0 ∧ (a < 16 ∨ 19 < a)) → mpit I P (nI ag) (nI s) a = I a := fun h => mpit_ne I P _ _ h
  have hru := hG.rr
  exact ⟨f1, f2, kOk_I (kOk_P hok (by omega)) (fun a _ _ => e (by omega)), kIe_pit hie _ _, ⟨fun p x y => by rw [e (by decide), e (by decide), e (by decide), e (by decide), e (by decide)]; exact hiz.1 p (by omega) y, by rw [e (by decide)]; exact hiz.2⟩, ⟨mpit_24 _ _ _ _, by rw [mpit_0 _ _ _ _ (by decide) (by decide)]; exact h35, by rw [mpit_0 _ _ _ _ (by decide) (by decide)]; exact h34, hD⟩, kTa_I hta (by rw [f3 11 (by decide) (by decide)]) (f3 12 (by decide) (by decide)) (mpit_0 _ _ _ _ (by decide) (by decide)) (e (by decide)), kTxt_h htx (fun a _ _ => f3 a (by omega) (by omega)), mtq_I htq (mpit_0 _ _ _ _ (by decide) (by decide)) (fun a _ _ => e (by omega)), hw5, f4 hclo⟩
theorem mgame_0 (I : Nat → Nat → Int32) (G : Nat) (a b age rk wk ws : Int32) {k : Nat} (h : k ≠ 0) (h2 : k ≠ 35) : mgame I G a b age rk wk ws 0 k = I 0 k := by
  unfold mgame
  rw [zu_apply, if_neg (fun q => h2 q.2), zu_ne _ _ _ (by decide), zu_ne _ _ _ (by decide), zu_ne _ _ _ (by decide), zu_ne _ _ _ (by decide), zu_ne _ _ _ (by decide), zu_ne _ _ _ (by decide), zu_ne _ _ _ (by decide), zu_ne _ _ _ (by decide), zu_apply, if_neg (fun q => h q.2)]
theorem mgame_35 (I : Nat → Nat → Int32) (G : Nat) (a b age rk wk ws : Int32) : mgame I G a b age rk wk ws 0 35 = nI (G + 1) := by
  unfold mgame
  rw [zu_apply, if_pos ⟨rfl, rfl⟩]
theorem q_gone {I : Nat → Nat → Int32} {wk : Int32} (h : mgone I wk = 0) : ∃ W, W ≤ 50 ∧ wk = nI W := by
  unfold mgone at h
  rcases pk_ix wk (n := 51) (by omega) with h1 | h1 | ⟨W, hW, e⟩
  · rw [if_pos h1] at h
    exact absurd h (by decide)
  · have h2 : (50 : Int32) < wk := q_nlt (N := 50) (by omega) h1
    have h3 : ¬ wk < 0 := fun q => by
      have := Int32.lt_trans h2 q
      exact absurd this (by decide)
    rw [if_neg h3, if_pos h2] at h
    exact absurd h (by decide)
  · exact ⟨W, by omega, e⟩
theorem q_game {hk hm : ZH} (hz : zRel hk hm) (a b age rk wk ws : Int32) : zAns yX8_game cX8_game 8 2 80 yX9_game cX9_game 7 1 40 [.int a, .int b, .int age, .int rk, .int wk, .int ws] hk hm := by
  obtain ⟨n, K, J, L, R, P, G, D, pa, ga, ru, sp, I, L9, T, ch, hd, ts, rfl, rfl, hr⟩ := hz
  obtain ⟨hG, hKD, hok, hie, hiz, ⟨h24, h35, h34, hD⟩, hta, htx, htq, hw5, hclo⟩ := id hr
  have hP6 : P ≤ 6 := hG.1.2.1
  have hG6 : G ≤ 60 := hG.1.2.2
  have hK9 := c9_game I L9 G a b age rk wk ws hG6 h35
  have hbad : (a < 0 ∨ 15 < a ∨ b < 0 ∨ 15 < b ∨ a = b ∨ age < 0 ∨ 2 < age ∨ rk < 0 ∨ 9 < rk ∨ ¬ mgone I wk = 0 ∨ ws ≤ 0 ∨ 268435455 < ws ∨ G = 60) → zAns yX8_game cX8_game 8 2 80 yX9_game cX9_game 7 1 40 [.int a, .int b, .int age, .int rk, .int wk, .int ws] (n, K, J, L, R) (mh I L9) := fun hb => by
    have hB : mgB I a b age rk wk ws := by
      unfold mgB
      rw [h35]
      rcases hb with q | q | q | q | q | q | q | q | q | q | q | q | q
      · exact Or.inl q
      · exact Or.inr (Or.inl q)
      · exact Or.inr (Or.inr (Or.inl q))
      · exact Or.inr (Or.inr (Or.inr (Or.inl q)))
      · exact Or.inr (Or.inr (Or.inr (Or.inr (Or.inl q))))
      · exact Or.inr (Or.inr (Or.inr (Or.inr (Or.inr (Or.inl q)))))
      · exact Or.inr (Or.inr (Or.inr (Or.inr (Or.inr (Or.inr (Or.inl q))))))
      · exact Or.inr (Or.inr (Or.inr (Or.inr (Or.inr (Or.inr (Or.inr (Or.inl q)))))))
      · exact Or.inr (Or.inr (Or.inr (Or.inr (Or.inr (Or.inr (Or.inr (Or.inr (Or.inl q))))))))
      · exact Or.inr (Or.inr (Or.inr (Or.inr (Or.inr (Or.inr (Or.inr (Or.inr (Or.inr (Or.inl q)))))))))
      · exact Or.inr (Or.inr (Or.inr (Or.inr (Or.inr (Or.inr (Or.inr (Or.inr (Or.inr (Or.inr (Or.inl q))))))))))
      · refine Or.inr (Or.inr (Or.inr (Or.inr (Or.inr (Or.inr (Or.inr (Or.inr (Or.inr (Or.inr (Or.inr (Or.inl ?_)))))))))))
        have q1 := Int32.lt_iff_toInt_lt.mp q
        refine Int32.le_iff_toInt_le.mpr ?_
        have x1 : (268435455 : Int32).toInt = 268435455 := by decide
        have x2 : (268435456 : Int32).toInt = 268435456 := by decide
        omega
      · exact Or.inr (Or.inr (Or.inr (Or.inr (Or.inr (Or.inr (Or.inr (Or.inr (Or.inr (Or.inr (Or.inr (Or.inr (by rw [q]; rfl))))))))))))
    rw [if_pos hB, if_pos hB] at hK9
    exact zAns_q hr _ (c8_game0 n K J L R P G pa ga ru sp hG I D a b age rk wk ws hD h34 hKD hb) hK9
  by_cases hGG : G = 60
  · exact hbad (by simp [hGG])
  rcases pk_ix a (n := 16) (by omega) with h1 | h1 | ⟨ka, ha, rfl⟩
  · exact hbad (by simp [h1])
  · exact hbad (by simp [show (15 : Int32) < a from q_nlt (N := 15) (by omega) h1])
  rcases pk_ix b (n := 16) (by omega) with h1 | h1 | ⟨kb, hb, rfl⟩
  · exact hbad (by simp [h1])
  · exact hbad (by simp [show (15 : Int32) < b from q_nlt (N := 15) (by omega) h1])
  by_cases hab : ka = kb
  · exact hbad (by simp [hab])
  rcases pk_ix age (n := 3) (by omega) with h1 | h1 | ⟨ag, hag, rfl⟩
  · exact hbad (by simp [h1])
  · exact hbad (by simp [show (2 : Int32) < age from q_nlt (N := 2) (by omega) h1])
  rcases pk_ix rk (n := 10) (by omega) with h1 | h1 | ⟨k, hk, rfl⟩
  · exact hbad (by simp [h1])
  · exact hbad (by simp [show (9 : Int32) < rk from q_nlt (N := 9) (by omega) h1])
  by_cases hgn0 : ¬ mgone I wk = 0
  · exact hbad (by simp [hgn0])
  have hgn : mgone I wk = 0 := Decidable.not_not.mp hgn0
  by_cases hw1 : ws ≤ 0
  · exact hbad (by simp [hw1])
  by_cases hw2 : 268435455 < ws
  · exact hbad (by simp [hw2])
  obtain ⟨W, hW, rfl⟩ := q_gone hgn
  obtain ⟨w, hw, rfl⟩ : ∃ w, w < 268435456 ∧ ws = nI w := by
    rcases pk_ix ws (n := 268435456) (by omega) with h1 | h1 | q
    · exact absurd (Int32.le_of_lt h1) hw1
    · refine absurd ?_ hw2
      refine Int32.lt_of_lt_of_le ?_ h1
      decide
    · exact q
  have hB : ¬ mgB I (nI ka) (nI kb) (nI ag) (nI k) (nI W) (nI w) := by
    unfold mgB
    rw [h35]
    rintro (q | q | q | q | q | q | q | q | q | q | q | q | q)
    · exact absurd ((zlt (b := 0) (by omega) (by omega)).mp q) (by omega)
    · exact absurd ((zlt (a := 15) (by omega) (by omega)).mp q) (by omega)
    · exact absurd ((zlt (b := 0) (by omega) (by omega)).mp q) (by omega)
    · exact absurd ((zlt (a := 15) (by omega) (by omega)).mp q) (by omega)
    · exact hab ((zeq (by omega) (by omega)).mp q)
    · exact absurd ((zlt (b := 0) (by omega) (by omega)).mp q) (by omega)
    · exact absurd ((zlt (a := 2) (by omega) (by omega)).mp q) (by omega)
    · exact absurd ((zlt (b := 0) (by omega) (by omega)).mp q) (by omega)
    · exact absurd ((zlt (a := 9) (by omega) (by omega)).mp q) (by omega)
    · exact q hgn
    · exact hw1 q
    · exact absurd ((nI_leI (a := 268435456) (b := w) (by omega) (by omega)).mp q) (by omega)
    · exact hGG ((zeq (b := 60) (by omega) (by omega)).mp q)
  rw [if_neg hB, if_neg hB] at hK9
  have hK8 := c8_game n K J L R P G pa ga ru sp hG I D ka kb ag k (nI W) (nI w) hD h34 (by omega) ha hb hab (by omega) (by omega) hgn hw1 hw2 hiz hKD
  refine ⟨1, 10, _, _, by omega, by omega, hK8, hK9, fun r h1 r' h2 q1 q2 => ?_⟩
  obtain ⟨rfl, K', M, L', R', rfl, f1, f2, f4, f3⟩ := q1
  obtain ⟨rfl, rfl⟩ := q2
  refine ⟨⟨_, rfl, rfl⟩, n + 1, K', M, L', R', P, G + 1, D, pa, va_up ga G n, ru, sp, _, L9, T, ch, hd, ts, rfl, rfl, ?_⟩
  have e : ∀ {q : Nat}, (q ≠ 0 ∧ (q < 25 ∨ 32 < q)) → mgame I G (nI ka) (nI kb) (nI ag) (nI k) (nI W) (nI w) q = I q := fun h => mgame_ne I G _ _ _ _ _ _ h
  have e0 : ∀ {q : Nat}, q ≠ 0 → q ≠ 35 → mgame I G (nI ka) (nI kb) (nI ag) (nI k) (nI W) (nI w) 0 q = I 0 q := fun x y => mgame_0 I G _ _ _ _ _ _ x y
  have hru := hG.rr
  exact ⟨f1, f2, kOk_addG hok ha hb hab (by omega) (by omega) hW hw, kIe_cong hie (e (by decide)) (e (by decide)), ⟨by rw [e (by decide), e (by decide), e (by decide), e (by decide), e (by decide)]; exact hiz.1, fun g x y => by rw [e (by decide)]; exact hiz.2 g (by omega) y⟩, ⟨by rw [e0 (by decide) (by decide)]; exact h24, mgame_35 _ _ _ _ _ _ _ _, by rw [e0 (by decide) (by decide)]; exact h34, hD⟩, kTa_I hta (by rw [f3 11 (by decide) (by decide)]) (f3 12 (by decide) (by decide)) (e0 (by decide) (by decide)) (e (by decide)), kTxt_h htx (fun a _ _ => f3 a (by omega) (by omega)), mtq_I htq (e0 (by decide) (by decide)) (fun a _ _ => e (by omega)), hw5, f4 hclo⟩
