/-! a game is played; what changes a pitch alone -/
theorem kD_p {n : Nat} {K : Nat → Nat × Nat} {R : Nat → Nat → Option Nat} {P G D : Nat} {pa ga : Nat → Nat} {ru sp : Nat} {J I J' I' : Nat → Nat → Int32} (hG : kG n K R P G pa ga ru sp) (h : kD J I P G D pa ga) {p : Nat} (hp : p < P) (hJ : ∀ a, a < pa p ∨ pa p + 5 ≤ a → J' a = J a) (hI : ∀ a, a = 16 ∨ (25 ≤ a ∧ a ≤ 34) → I' a = I a) (hq : ∀ q, q < P → q ≠ p → (∀ a, 17 ≤ a → a ≤ 24 → a ≠ 18 → a ≠ 19 → I' a q = I a q) ∧ ∀ k, k < 24 → I' 18 (24 * q + k) = I 18 (24 * q + k) ∧ I' 19 (24 * q + k) = I 19 (24 * q + k)) (hpp : kPm J' I' (pa p) p) : kD J' I' P G D pa ga := by
  obtain ⟨-, -, -, -, -, -, -, ⟨hgm, -⟩, ⟨hpm, hpi⟩⟩ := hG
  obtain ⟨⟨s1, s2, s3⟩, h2, h3, h4, h5⟩ := h
  have h28 := (hpm p hp).2.1
  obtain ⟨-, q1, q2, q3, q4, q5, -, -⟩ := hpm p hp
  obtain ⟨-, -, c1, c2, -⟩ := q4
  obtain ⟨-, -, c3, c4, -⟩ := q5
  have e : ∀ a, a < 28 → J' a = J a := fun a ha => hJ a (by omega)
  refine ⟨⟨by rw [e 0 (by decide)]; exact s1, by rw [e 0 (by decide)]; exact s2, by rw [e 0 (by decide)]; exact s3⟩, fun g hg => ?_, fun q hq1 => ?_, kTr_cong h4 (e 3 (by decide)) (hI 16 (by omega)), kCl_cong h5 (e 4 (by decide)) (e 5 (by decide)) (e 6 (by decide)) (fun a ha => hI a (by omega))⟩
  · refine kGm_cong (h2 g hg) (hJ _ ?_) (fun a x y => by rw [hI a (by omega)])
    have gk := (hgm g hg).2.2.2
    have n0 := kne gk q3 (by decide)
    have n1 := kne gk c1 (by decide)
    have n2 := kne gk c2 (by decide)
    have n3 := kne gk c3 (by decide)
    have n4 := kne gk c4 (by decide)
    omega
  · by_cases ep : q = p
    · rw [ep]; exact hpp
    · have hd := hpi q p hq1 hp ep
      obtain ⟨u1, u2⟩ := hq q hq1 ep
      exact kPm_cong (h3 q hq1) (fun a x y => hJ a (by omega)) u1 u2
theorem kD_st {n : Nat} {K : Nat → Nat × Nat} {R : Nat → Nat → Option Nat} {P G D : Nat} {pa ga : Nat → Nat} {ru sp : Nat} {J I : Nat → Nat → Int32} (hG : kG n K R P G pa ga ru sp) (h : kD J I P G D pa ga) {g a b : Nat} {x : Int32} (hg : g < G) (ha : a < 16) (hb : b < 16) (hab : a ≠ b) (h25 : I 25 g = nI a) (h26 : I 26 g = nI b) (h1 : I 31 g = 1) (hx : x = J 4 b) : kD (zu (zu (zu J (ga g) 7 2) 4 a (J 4 a + 1)) 4 b (x + 1)) (zu I 31 g 2) P G D pa ga := by
  obtain ⟨-, -, -, -, -, -, -, ⟨hgm, hgi⟩, ⟨hpm, -⟩⟩ := hG
  obtain ⟨⟨s1, s2, s3⟩, h2, h3, h4, h5⟩ := h
  have h28 := (hgm g hg).2.1
  have hgk := (hgm g hg).2.2.2
  have e4 : ∀ q, q ≠ 4 → zu (zu (zu J (ga g) 7 2) 4 a (J 4 a + 1)) 4 b (x + 1) q = zu J (ga g) 7 2 q := fun q hq => by rw [zu_ne _ _ _ hq, zu_ne _ _ _ hq]
  have e : ∀ q, q ≠ 4 → q ≠ ga g → zu (zu (zu J (ga g) 7 2) 4 a (J 4 a + 1)) 4 b (x + 1) q = J q := fun q hq hq2 => by rw [e4 q hq, zu_ne _ _ _ hq2]
  have hF : ∀ q, q ≠ 31 → zu I 31 g 2 q = I q := fun q hq => zu_ne _ _ _ hq
  have l31 : ∀ k, zu I 31 g 2 31 k = if k = g then 2 else I 31 k := fun k => by
    rw [zu_apply]
    by_cases e : k = g
    · rw [if_pos ⟨rfl, e⟩, if_pos e]
    · rw [if_neg (fun q => e q.2), if_neg e]
  refine ⟨⟨by rw [e 0 (by omega) (by omega)]; exact s1, by rw [e 0 (by omega) (by omega)]; exact s2, by rw [e 0 (by omega) (by omega)]; exact s3⟩, fun k hk => ?_, fun p hp => ?_, kTr_cong h4 (e 3 (by omega) (by omega)) (hF 16 (by decide)), fun c hc => ?_⟩
  · by_cases ek : k = g
    · subst ek
      obtain ⟨⟨a1, a2, a3, a4, a5⟩, ⟨b1, b2, b3, b4, b5⟩⟩ := h2 k hk
      have e8 : ∀ j, j ≠ 7 → zu J (ga k) 7 2 (ga k) j = J (ga k) j := fun j x => by rw [zu_apply, if_neg (by omega)]
      unfold kGm
      rw [e4 _ (by omega), hF 25 (by decide), hF 26 (by decide), hF 27 (by decide), hF 28 (by decide), hF 29 (by decide), hF 30 (by decide), hF 32 (by decide), hF 33 (by decide), e8 0 (by decide), e8 1 (by decide), e8 2 (by decide), e8 3 (by decide), e8 4 (by decide), e8 5 (by decide), e8 6 (by decide), e8 8 (by decide), e8 9 (by decide), l31, if_pos rfl]
      refine ⟨⟨a1, a2, a3, a4, a5⟩, ⟨b1, b2, ?_, b4, b5⟩⟩
      rw [zu_apply, if_pos ⟨rfl, rfl⟩]
    · refine kGm_cong (h2 k hk) (e _ (by have := (hgm k hk).2.1; omega) (fun q => ek (hgi k g hk hg q))) (fun q x y => ?_)
      rw [zu_apply, if_neg (fun w => ek w.2)]
  · obtain ⟨-, q1, q2, q3, q4, q5, -, -⟩ := hpm p hp
    obtain ⟨-, -, c1, c2, -⟩ := q4
    obtain ⟨-, -, c3, c4, -⟩ := q5
    refine kPm_cong (h3 p hp) (fun q x y => e q (by omega) ?_) (fun q x y _ _ => by rw [hF q (by omega)]) (fun k _ => ⟨by rw [hF 18 (by decide)], by rw [hF 19 (by decide)]⟩)
    rcases (show q = pa p ∨ q = pa p + 1 ∨ q = pa p + 2 ∨ q = pa p + 3 ∨ q = pa p + 4 by omega) with rfl | rfl | rfl | rfl | rfl
    · exact kne q3 hgk (by decide)
    · exact kne c1 hgk (by decide)
    · exact kne c2 hgk (by decide)
    · exact kne c3 hgk (by decide)
    · exact kne c4 hgk (by decide)
  · obtain ⟨c1, c2, c3⟩ := h5 c hc
    rw [e 5 (by omega) (by omega), e 6 (by omega) (by omega), hF 34 (by decide)]
    rw [mnof_eq G (how := 3) (fun k hk => ?_) (hF 25 (by decide)) (hF 26 (by decide))]
    · refine ⟨?_, c2, c3⟩
      have hJ4 : zu J (ga g) 7 2 4 = J 4 := zu_ne _ _ _ (by omega)
      have hk := kbump (J := zu J (ga g) 7 2) (q := 4) hab x (by rw [hJ4]; exact hx) c
      rw [hJ4] at hk
      rw [hk, (mnof_ins (g := g) (hF 25 (by decide)) (hF 26 (by decide)) (by rw [l31, if_pos rfl]) (by rw [h1]; decide) (fun k hk => by rw [l31, if_neg hk]) G).1 hg, c1]
      congr 1
      by_cases ec : c = a ∨ c = b
      · rw [if_pos ec, if_pos ((kclub ha hb h25 h26 hc).mpr ec)]
      · rw [if_neg ec, if_neg (fun q => ec ((kclub ha hb h25 h26 hc).mp q))]
    · rw [l31]
      by_cases ek : k = g
      · rw [if_pos ek, ek, h1]
        exact ⟨fun q => absurd q (by decide), fun q => absurd q (by decide)⟩
      · rw [if_neg ek]
theorem kOk_play {I : Nat → Nat → Int32} {P G C C' g s : Nat} (h : kOk I P G C) (h1 : I 31 g = 1) (h32 : I 32 g = nI s) (hs : s < C') (hC : C ≤ C') : kOk (zu I 31 g 2) P G C' := by
  obtain ⟨⟨hi, hu, hc⟩, hp⟩ := h
  have hF : ∀ q, q ≠ 31 → zu I 31 g 2 q = I q := fun q hq => zu_ne _ _ _ hq
  have l31 : ∀ k, zu I 31 g 2 31 k = if k = g then 2 else I 31 k := fun k => by
    rw [zu_apply]
    by_cases e : k = g
    · rw [if_pos ⟨rfl, e⟩, if_pos e]
    · rw [if_neg (fun q => e q.2), if_neg e]
  have hm : ∀ k, mth (zu I 31 g 2) k = mth I k := fun k => by
    unfold mth
    rw [l31]
    by_cases e : k = g
    · rw [if_pos e, e, h1]; rfl
    · rw [if_neg e]
  have hmc : ∀ k c, mhc (zu I 31 g 2) k c = mhc I k c := fun k c => by unfold mhc; rw [hF 25 (by decide), hF 26 (by decide)]
  refine ⟨⟨fun k hk => ?_, fun a b ha hb hab ma mb => ?_, fun a b ha hb hab ma mb e c => ?_⟩, fun k hk h2 => ?_⟩
  · obtain ⟨a1, a2, a3, a4, w, hw, h29, hs⟩ := hi k hk
    unfold kIg
    rw [hF 25 (by decide), hF 26 (by decide), hF 27 (by decide), hF 28 (by decide), hF 29 (by decide), hF 30 (by decide)]
    refine ⟨a1, a2, a3, a4, w, hw, h29, ?_⟩
    unfold kIs at hs ⊢
    rw [hm, hF 32 (by decide), l31]
    rcases hs with ⟨b1, b2, b3⟩ | hs
    · refine Or.inl ⟨b1, ?_, b3⟩
      have : k ≠ g := fun q => by rw [q, h1] at b2; exact b2.elim (by decide) (by decide)
      rw [if_neg this]
      exact b2
    · exact Or.inr hs
  · rw [hm] at ma mb
    rw [hF 32 (by decide)]
    exact hu a b ha hb hab ma mb
  · rw [hm] at ma mb
    rw [hF 32 (by decide)] at e
    rw [hmc, hmc]
    exact hc a b ha hb hab ma mb e c
  · rw [hF 32 (by decide)]
    rw [l31] at h2
    by_cases e : k = g
    · rw [e]; exact ⟨s, hs, h32⟩
    · rw [if_neg e] at h2
      obtain ⟨S, q1, q2⟩ := hp k hk h2
      exact ⟨S, by omega, q2⟩
theorem tww_eq {J I : Nat → Nat → Int32} {t c A p : Nat} {how age wet : Int32} (h1 : J t 1 = how) (hc : ∀ k, k < 24 → J c k = I A (24 * p + k)) : ∀ k, k < 24 → tww J t c age wet k = mww I A p how age wet k := fun k hk => by
  unfold tww mww
  rw [h1, hc k hk]
theorem kD_wear1 {n : Nat} {K : Nat → Nat × Nat} {R : Nat → Nat → Option Nat} {P G D : Nat} {pa ga : Nat → Nat} {ru sp : Nat} {J I : Nat → Nat → Int32} (hG : kG n K R P G pa ga ru sp) (h : kD J I P G D pa ga) {p : Nat} (hp : p < P) (age wet : Int32) : kD (twI J (pa p + 1) (pa p + 2) age wet 24) (zu (mwI I 18 p (I 17 p) age wet 24) 20 p (I 20 p + msum (mww I 18 p (I 17 p) age wet) 24)) P G D pa ga := by
  obtain ⟨⟨m2, m3, m4⟩, ⟨n1, n2, n3⟩, ⟨o1, o2, o3⟩⟩ := h.2.2.1 p hp
  have et : ∀ a, a ≠ pa p + 1 → a ≠ pa p + 2 → twI J (pa p + 1) (pa p + 2) age wet 24 a = J a := fun a x y => by
    funext j
    unfold twI
    rw [if_neg (fun q => y q.1), if_neg (fun q => x q.1)]
  have eI : ∀ a, a ≠ 18 → mwI I 18 p (I 17 p) age wet 24 a = I a := fun a x => by
    funext j
    unfold mwI
    rw [if_neg (fun q => x q.1)]
  have e2 : ∀ a, a ≠ 18 → a ≠ 20 → zu (mwI I 18 p (I 17 p) age wet 24) 20 p (I 20 p + msum (mww I 18 p (I 17 p) age wet) 24) a = I a := fun a x y => by rw [zu_ne _ _ _ y, eI a x]
  have hw := tww_eq (J := J) (I := I) (age := age) (wet := wet) n1 n3
  refine kD_p hG h hp (fun a ha => et a (by omega) (by omega)) (fun a ha => e2 a (by omega) (by omega)) (fun q hq hqp => ⟨fun a x y z w => ?_, fun k hk => ⟨?_, by rw [e2 19 (by decide) (by decide)]⟩⟩) ⟨⟨?_, ?_, ?_⟩, ⟨?_, ?_, fun k hk => ?_⟩, ⟨?_, ?_, fun k hk => ?_⟩⟩
  · by_cases e : a = 20
    · rw [e, zu_apply, if_neg (fun w => hqp w.2), eI 20 (by decide)]
    · rw [e2 a z e]
  · rw [zu_ne _ _ _ (by decide)]
    unfold mwI
    rw [if_neg (by omega)]
  · rw [et _ (by omega) (by omega), e2 22 (by decide) (by decide)]; exact m2
  · rw [et _ (by omega) (by omega), e2 23 (by decide) (by decide)]; exact m3
  · rw [et _ (by omega) (by omega), e2 24 (by decide) (by decide)]; exact m4
  · rw [twI_1 J (by omega), e2 17 (by decide) (by decide)]; exact n1
  · rw [twI_2 J (by omega), zu_apply, if_pos ⟨rfl, rfl⟩, n2, msum_cong 24 hw]
  · rw [zu_ne _ _ _ (by decide)]
    unfold twI mwI
    rw [if_pos ⟨rfl, hk⟩, if_pos ⟨rfl, by omega, by omega⟩, Nat.add_sub_cancel_left, hw k hk, n3 k hk]
  · rw [et _ (by omega) (by omega), e2 17 (by decide) (by decide)]; exact o1
  · rw [et _ (by omega) (by omega), e2 21 (by decide) (by decide)]; exact o2
  · rw [et _ (by omega) (by omega), e2 19 (by decide) (by decide)]; exact o3 k hk
theorem kD_wear2 {n : Nat} {K : Nat → Nat × Nat} {R : Nat → Nat → Option Nat} {P G D : Nat} {pa ga : Nat → Nat} {ru sp : Nat} {J I : Nat → Nat → Int32} (hG : kG n K R P G pa ga ru sp) (h : kD J I P G D pa ga) {p : Nat} (hp : p < P) (age wet : Int32) : kD (twI J (pa p + 3) (pa p + 4) age wet 24) (zu (mwI I 19 p (1 - I 17 p) age wet 24) 21 p (I 21 p + msum (mww I 19 p (1 - I 17 p) age wet) 24)) P G D pa ga := by
  obtain ⟨⟨m2, m3, m4⟩, ⟨n1, n2, n3⟩, ⟨o1, o2, o3⟩⟩ := h.2.2.1 p hp
  have et : ∀ a, a ≠ pa p + 3 → a ≠ pa p + 4 → twI J (pa p + 3) (pa p + 4) age wet 24 a = J a := fun a x y => by
    funext j
    unfold twI
    rw [if_neg (fun q => y q.1), if_neg (fun q => x q.1)]
  have eI : ∀ a, a ≠ 19 → mwI I 19 p (1 - I 17 p) age wet 24 a = I a := fun a x => by
    funext j
    unfold mwI
    rw [if_neg (fun q => x q.1)]
  have e2 : ∀ a, a ≠ 19 → a ≠ 21 → zu (mwI I 19 p (1 - I 17 p) age wet 24) 21 p (I 21 p + msum (mww I 19 p (1 - I 17 p) age wet) 24) a = I a := fun a x y => by rw [zu_ne _ _ _ y, eI a x]
  have hw := tww_eq (J := J) (I := I) (age := age) (wet := wet) o1 o3
  refine kD_p hG h hp (fun a ha => et a (by omega) (by omega)) (fun a ha => e2 a (by omega) (by omega)) (fun q hq hqp => ⟨fun a x y z w => ?_, fun k hk => ⟨by rw [e2 18 (by decide) (by decide)], ?_⟩⟩) ⟨⟨?_, ?_, ?_⟩, ⟨?_, ?_, fun k hk => ?_⟩, ⟨?_, ?_, fun k hk => ?_⟩⟩
  · by_cases e : a = 21
    · rw [e, zu_apply, if_neg (fun w => hqp w.2), eI 21 (by decide)]
    · rw [e2 a w e]
  · rw [zu_ne _ _ _ (by decide)]
    unfold mwI
    rw [if_neg (by omega)]
  · rw [et _ (by omega) (by omega), e2 22 (by decide) (by decide)]; exact m2
  · rw [et _ (by omega) (by omega), e2 23 (by decide) (by decide)]; exact m3
  · rw [et _ (by omega) (by omega), e2 24 (by decide) (by decide)]; exact m4
  · rw [et _ (by omega) (by omega), e2 17 (by decide) (by decide)]; exact n1
  · rw [et _ (by omega) (by omega), e2 20 (by decide) (by decide)]; exact n2
  · rw [et _ (by omega) (by omega), e2 18 (by decide) (by decide)]; exact n3 k hk
  · rw [twI_1 J (by omega), e2 17 (by decide) (by decide)]; exact o1
  · rw [twI_2 J (by omega), zu_apply, if_pos ⟨rfl, rfl⟩, o2, msum_cong 24 hw]
  · rw [zu_ne _ _ _ (by decide)]
    unfold twI mwI
    rw [if_pos ⟨rfl, hk⟩, if_pos ⟨rfl, by omega, by omega⟩, Nat.add_sub_cancel_left, hw k hk, o3 k hk]
theorem kD_cnt {n : Nat} {K : Nat → Nat × Nat} {R : Nat → Nat → Option Nat} {P G D : Nat} {pa ga : Nat → Nat} {ru sp : Nat} {J I : Nat → Nat → Int32} (hG : kG n K R P G pa ga ru sp) (h : kD J I P G D pa ga) {p f r : Nat} (hp : p < P) (hf : (f = 2 ∧ r = 22) ∨ (f = 3 ∧ r = 23) ∨ (f = 4 ∧ r = 24)) (v : Int32) : kD (zu J (pa p) f v) (zu I r p v) P G D pa ga := by
  obtain ⟨⟨m2, m3, m4⟩, ⟨n1, n2, n3⟩, ⟨o1, o2, o3⟩⟩ := h.2.2.1 p hp
  have et : ∀ a, a ≠ pa p → zu J (pa p) f v a = J a := fun a x => zu_ne _ _ _ x
  have eI : ∀ a, a ≠ r → zu I r p v a = I a := fun a x => zu_ne _ _ _ x
  refine kD_p hG h hp (fun a ha => et a (by omega)) (fun a ha => eI a (by omega)) (fun q hq hqp => ⟨fun a x y z w => by rw [zu_apply, if_neg (fun u => hqp u.2)], fun k hk => ⟨by rw [eI 18 (by omega)], by rw [eI 19 (by omega)]⟩⟩) ⟨⟨?_, ?_, ?_⟩, ⟨?_, ?_, fun k hk => ?_⟩, ⟨?_, ?_, fun k hk => ?_⟩⟩
  · rw [zu_apply, zu_apply]
    by_cases e : f = 2
    · rw [if_pos ⟨rfl, e.symm⟩, if_pos ⟨by omega, rfl⟩]
    · rw [if_neg (by omega), if_neg (by omega)]; exact m2
  · rw [zu_apply, zu_apply]
    by_cases e : f = 3
    · rw [if_pos ⟨rfl, e.symm⟩, if_pos ⟨by omega, rfl⟩]
    · rw [if_neg (by omega), if_neg (by omega)]; exact m3
  · rw [zu_apply, zu_apply]
    by_cases e : f = 4
    · rw [if_pos ⟨rfl, e.symm⟩, if_pos ⟨by omega, rfl⟩]
    · rw [if_neg (by omega), if_neg (by omega)]; exact m4
  · rw [et _ (by omega), eI 17 (by omega)]; exact n1
  · rw [et _ (by omega), eI 20 (by omega)]; exact n2
  · rw [et _ (by omega), eI 18 (by omega)]; exact n3 k hk
  · rw [et _ (by omega), eI 17 (by omega)]; exact o1
  · rw [et _ (by omega), eI 21 (by omega)]; exact o2
  · rw [et _ (by omega), eI 19 (by omega)]; exact o3 k hk
