/-! a game is sent away -/
theorem mnof_ins {I I' : Nat → Nat → Int32} {c how : Int32} {g : Nat} (h25 : I' 25 = I 25) (h26 : I' 26 = I 26) (hg : I' 31 g = how) (hg0 : I 31 g ≠ how) (ho : ∀ k, k ≠ g → I' 31 k = I 31 k) : ∀ G, (g < G → mnof I' c how G = mnof I c how G + (if mhc I g c = true then 1 else 0)) ∧ (G ≤ g → mnof I' c how G = mnof I c how G)
  | 0 => ⟨fun h => by omega, fun _ => rfl⟩
  | G + 1 => by
    have ih := mnof_ins (c := c) (how := how) h25 h26 hg hg0 ho G
    have hm : ∀ k, mhc I' k c = mhc I k c := fun k => by unfold mhc; rw [h25, h26]
    simp only [mnof]
    rw [hm]
    constructor
    · intro h
      by_cases e : g = G
      · subst e
        rw [ih.2 (Nat.le_refl _), hg, if_neg (show ¬ (I 31 g = how ∧ mhc I g c = true) from fun q => hg0 q.1)]
        by_cases e2 : mhc I g c = true
        · rw [if_pos ⟨rfl, e2⟩, if_pos e2]; grind
        · rw [if_neg (fun q => e2 q.2), if_neg e2]; grind
      · rw [ih.1 (by omega), ho G (fun q => e q.symm)]
        grind
    · intro h
      rw [ih.2 (by omega), ho G (by omega)]
theorem kbump {J : Nat → Nat → Int32} {q a b : Nat} (hab : a ≠ b) (v : Int32) (hv : v = J q b) (c : Nat) : zu (zu J q a (J q a + 1)) q b (v + 1) q c = J q c + (if c = a ∨ c = b then 1 else 0) := by
  rw [zu_apply, zu_apply]
  by_cases h1 : c = b
  · rw [if_pos ⟨rfl, h1⟩, if_pos (Or.inr h1), hv, h1]
  · rw [if_neg (fun w => h1 w.2)]
    by_cases h2 : c = a
    · rw [if_pos ⟨rfl, h2⟩, if_pos (Or.inl h2), h2]
    · rw [if_neg (fun w => h2 w.2), if_neg (fun w => w.elim h2 h1)]
      grind
theorem kclub {I : Nat → Nat → Int32} {g a b c : Nat} (ha : a < 16) (hb : b < 16) (h25 : I 25 g = nI a) (h26 : I 26 g = nI b) (hc : c < 16) : (mhc I g (nI c) = true) ↔ (c = a ∨ c = b) := by
  unfold mhc
  rw [Bool.or_eq_true, decide_eq_true_iff, decide_eq_true_iff, h25, h26, zeq (by omega) (by omega), zeq (by omega) (by omega)]
  exact ⟨fun h => h.imp Eq.symm Eq.symm, fun h => h.imp Eq.symm Eq.symm⟩
theorem kD_lost {n : Nat} {K : Nat → Nat × Nat} {R : Nat → Nat → Option Nat} {P G D : Nat} {pa ga : Nat → Nat} {ru sp : Nat} {J I : Nat → Nat → Int32} (hG : kG n K R P G pa ga ru sp) (h : kD J I P G D pa ga) {a : Nat} (ha : a < 16) : kD (zu J 5 a (J 5 a + 1)) (mlost I a) P G D pa ga := by
  obtain ⟨-, -, -, -, -, -, -, ⟨hgm, -⟩, ⟨hpm, -⟩⟩ := hG
  obtain ⟨⟨s1, s2, s3⟩, h2, h3, h4, h5⟩ := h
  have e : ∀ b, b ≠ 5 → zu J 5 a (J 5 a + 1) b = J b := fun b hb => zu_ne _ _ _ hb
  have eI : ∀ b, b ≠ 34 → mlost I a b = I b := fun b hb => by unfold mlost; exact zu_ne _ _ _ hb
  refine ⟨⟨s1, s2, s3⟩, fun g hg => kGm_cong (h2 g hg) (e _ (by have := (hgm g hg).2.1; omega)) (fun b x y => by rw [eI b (by omega)]), fun p hp => kPm_cong (h3 p hp) (fun b x y => e b (by have := (hpm p hp).2.1; omega)) (fun b x y _ _ => by rw [eI b (by omega)]) (fun k _ => ⟨by rw [eI 18 (by decide)], by rw [eI 19 (by decide)]⟩), kTr_cong h4 (e 3 (by decide)) (eI 16 (by decide)), fun c hc => ?_⟩
  obtain ⟨c1, c2, c3⟩ := h5 c hc
  rw [e 4 (by decide), e 6 (by decide), mnof_cong (eI 31 (by decide)) (eI 25 (by decide)) (eI 26 (by decide)), mnof_cong (eI 31 (by decide)) (eI 25 (by decide)) (eI 26 (by decide))]
  refine ⟨c1, ?_, c3⟩
  unfold mlost
  rw [zu_apply, zu_apply]
  by_cases ec : c = a
  · rw [if_pos ⟨rfl, ec⟩, if_pos ⟨rfl, ec⟩, ← ec, c2]
  · rw [if_neg (fun q => ec q.2), if_neg (fun q => ec q.2)]
    exact c2
theorem kD_mv {n : Nat} {K : Nat → Nat × Nat} {R : Nat → Nat → Option Nat} {P G D : Nat} {pa ga : Nat → Nat} {ru sp : Nat} {J I : Nat → Nat → Int32} (hG : kG n K R P G pa ga ru sp) (h : kD J I P G D pa ga) {g : Nat} (hg : g < G) : kD (zu J (ga g) 9 (J (ga g) 9 + 1)) (zu I 33 g (I 33 g + 1)) P G D pa ga := by
  obtain ⟨-, -, -, -, -, -, -, ⟨hgm, hgi⟩, ⟨hpm, -⟩⟩ := hG
  obtain ⟨⟨s1, s2, s3⟩, h2, h3, h4, h5⟩ := h
  have e : ∀ b, b ≠ ga g → zu J (ga g) 9 (J (ga g) 9 + 1) b = J b := fun b hb => zu_ne _ _ _ hb
  have eI : ∀ b, b ≠ 33 → zu I 33 g (I 33 g + 1) b = I b := fun b hb => zu_ne _ _ _ hb
  have h28 := (hgm g hg).2.1
  have hgk := (hgm g hg).2.2.2
  refine ⟨⟨by rw [e 0 (by omega)]; exact s1, by rw [e 0 (by omega)]; exact s2, by rw [e 0 (by omega)]; exact s3⟩, fun k hk => ?_, fun p hp => ?_, kTr_cong h4 (e 3 (by omega)) (eI 16 (by decide)), kCl_cong h5 (e 4 (by omega)) (e 5 (by omega)) (e 6 (by omega)) (fun b hb => eI b (by omega))⟩
  · by_cases ek : k = g
    · subst ek
      obtain ⟨⟨a1, a2, a3, a4, a5⟩, ⟨b1, b2, b3, b4, b5⟩⟩ := h2 k hk
      have e8 : ∀ j, j ≠ 9 → zu J (ga k) 9 (J (ga k) 9 + 1) (ga k) j = J (ga k) j := fun j x => by rw [zu_apply, if_neg (by omega)]
      unfold kGm
      rw [eI 25 (by decide), eI 26 (by decide), eI 27 (by decide), eI 28 (by decide), eI 29 (by decide), eI 30 (by decide), eI 31 (by decide), eI 32 (by decide), e8 0 (by decide), e8 1 (by decide), e8 2 (by decide), e8 3 (by decide), e8 4 (by decide), e8 5 (by decide), e8 6 (by decide), e8 7 (by decide), e8 8 (by decide)]
      refine ⟨⟨a1, a2, a3, a4, a5⟩, ⟨b1, b2, b3, b4, ?_⟩⟩
      rw [zu_apply, zu_apply, if_pos ⟨rfl, rfl⟩, if_pos ⟨rfl, rfl⟩, b5]
    · refine kGm_cong (h2 k hk) (e _ (fun q => ek (hgi k g hk hg q))) (fun b x y => ?_)
      rw [zu_apply, if_neg (fun q => ek q.2)]
  · obtain ⟨-, q1, q2, q3, q4, q5, -, -⟩ := hpm p hp
    obtain ⟨-, -, c1, c2, -⟩ := q4
    obtain ⟨-, -, c3, c4, -⟩ := q5
    refine kPm_cong (h3 p hp) (fun a x y => e a ?_) (fun a x y _ _ => by rw [eI a (by omega)]) (fun k _ => ⟨by rw [eI 18 (by decide)], by rw [eI 19 (by decide)]⟩)
    rcases (show a = pa p ∨ a = pa p + 1 ∨ a = pa p + 2 ∨ a = pa p + 3 ∨ a = pa p + 4 by omega) with rfl | rfl | rfl | rfl | rfl
    · exact kne q3 hgk (by decide)
    · exact kne c1 hgk (by decide)
    · exact kne c2 hgk (by decide)
    · exact kne c3 hgk (by decide)
    · exact kne c4 hgk (by decide)
/-- the state of a game and its clubs' counts: v the new state, q the keeper's row of the counts -/
theorem kD_off {n : Nat} {K : Nat → Nat × Nat} {R : Nat → Nat → Option Nat} {P G D : Nat} {pa ga : Nat → Nat} {ru sp : Nat} {J I : Nat → Nat → Int32} (hG : kG n K R P G pa ga ru sp) (h : kD J I P G D pa ga) {g a b : Nat} {x : Int32} (hg : g < G) (ha : a < 16) (hb : b < 16) (hab : a ≠ b) (h25 : I 25 g = nI a) (h26 : I 26 g = nI b) (h1 : I 31 g = 1) (hx : x = J 6 b) : kD (zu (zu (zu (zu J (ga g) 8 (-1)) (ga g) 7 3) 6 a (J 6 a + 1)) 6 b (x + 1)) (zu (zu I 31 g 3) 32 g (-1)) P G D pa ga := by
  obtain ⟨-, -, -, -, -, -, -, ⟨hgm, hgi⟩, ⟨hpm, -⟩⟩ := hG
  obtain ⟨⟨s1, s2, s3⟩, h2, h3, h4, h5⟩ := h
  have h28 := (hgm g hg).2.1
  have hgk := (hgm g hg).2.2.2
  have e6 : ∀ q, q ≠ 6 → zu (zu (zu (zu J (ga g) 8 (-1)) (ga g) 7 3) 6 a (J 6 a + 1)) 6 b (x + 1) q = zu (zu J (ga g) 8 (-1)) (ga g) 7 3 q := fun q hq => by rw [zu_ne _ _ _ hq, zu_ne _ _ _ hq]
  have e : ∀ q, q ≠ 6 → q ≠ ga g → zu (zu (zu (zu J (ga g) 8 (-1)) (ga g) 7 3) 6 a (J 6 a + 1)) 6 b (x + 1) q = J q := fun q hq hq2 => by rw [e6 q hq, zu_ne _ _ _ hq2, zu_ne _ _ _ hq2]
  have hF := mF2_off I g 3 (-1)
  refine ⟨⟨by rw [e 0 (by omega) (by omega)]; exact s1, by rw [e 0 (by omega) (by omega)]; exact s2, by rw [e 0 (by omega) (by omega)]; exact s3⟩, fun k hk => ?_, fun p hp => ?_, kTr_cong h4 (e 3 (by omega) (by omega)) (hF 16 (by decide) (by decide)), fun c hc => ?_⟩
  · by_cases ek : k = g
    · subst ek
      obtain ⟨⟨a1, a2, a3, a4, a5⟩, ⟨b1, b2, b3, b4, b5⟩⟩ := h2 k hk
      have e8 : ∀ j, j ≠ 7 → j ≠ 8 → zu (zu J (ga k) 8 (-1)) (ga k) 7 3 (ga k) j = J (ga k) j := fun j x y => by rw [zu_apply, if_neg (by omega), zu_apply, if_neg (by omega)]
      unfold kGm
      rw [e6 _ (by omega), hF 25 (by decide) (by decide), hF 26 (by decide) (by decide), hF 27 (by decide) (by decide), hF 28 (by decide) (by decide), hF 29 (by decide) (by decide), hF 30 (by decide) (by decide), hF 33 (by decide) (by decide), e8 0 (by decide) (by decide), e8 1 (by decide) (by decide), e8 2 (by decide) (by decide), e8 3 (by decide) (by decide), e8 4 (by decide) (by decide), e8 5 (by decide) (by decide), e8 6 (by decide) (by decide), e8 9 (by decide) (by decide), l31_off, if_pos rfl, l32_off, if_pos rfl, if_pos (show (-1 : Int32) < 0 by decide)]
      refine ⟨⟨a1, a2, a3, a4, a5⟩, ⟨b1, b2, ?_, ?_, b5⟩⟩
      · rw [zu_apply, if_pos ⟨rfl, rfl⟩]
      · rw [zu_apply, if_neg (by omega), zu_apply, if_pos ⟨rfl, rfl⟩]
    · refine kGm_cong (h2 k hk) (e _ (by have := (hgm k hk).2.1; omega) (fun q => ek (hgi k g hk hg q))) (fun q x y => ?_)
      by_cases e31 : q = 31
      · rw [e31, l31_off, if_neg ek]
      · by_cases e32 : q = 32
        · rw [e32, l32_off, if_neg ek]
        · rw [hF q e31 e32]
  · obtain ⟨-, q1, q2, q3, q4, q5, -, -⟩ := hpm p hp
    obtain ⟨-, -, c1, c2, -⟩ := q4
    obtain ⟨-, -, c3, c4, -⟩ := q5
    refine kPm_cong (h3 p hp) (fun q x y => e q (by omega) ?_) (fun q x y _ _ => by rw [hF q (by omega) (by omega)]) (fun k _ => ⟨by rw [hF 18 (by decide) (by decide)], by rw [hF 19 (by decide) (by decide)]⟩)
    rcases (show q = pa p ∨ q = pa p + 1 ∨ q = pa p + 2 ∨ q = pa p + 3 ∨ q = pa p + 4 by omega) with rfl | rfl | rfl | rfl | rfl
    · exact kne q3 hgk (by decide)
    · exact kne c1 hgk (by decide)
    · exact kne c2 hgk (by decide)
    · exact kne c3 hgk (by decide)
    · exact kne c4 hgk (by decide)
  · obtain ⟨c1, c2, c3⟩ := h5 c hc
    rw [e 4 (by omega) (by omega), e 5 (by omega) (by omega), hF 34 (by decide) (by decide)]
    rw [mnof_eq G (how := 2) (fun k hk => ?_) (hF 25 (by decide) (by decide)) (hF 26 (by decide) (by decide))]
    · refine ⟨c1, c2, ?_⟩
      have hJ6 : zu (zu J (ga g) 8 (-1)) (ga g) 7 3 6 = J 6 := by rw [zu_ne _ _ _ (by omega), zu_ne _ _ _ (by omega)]
      have hk := kbump (J := zu (zu J (ga g) 8 (-1)) (ga g) 7 3) (q := 6) hab x (by rw [hJ6]; exact hx) c
      rw [hJ6] at hk
      rw [hk, (mnof_ins (g := g) (hF 25 (by decide) (by decide)) (hF 26 (by decide) (by decide)) (by rw [l31_off, if_pos rfl]) (by rw [h1]; decide) (fun k hk => by rw [l31_off, if_neg hk]) G).1 hg, c3]
      congr 1
      by_cases ec : c = a ∨ c = b
      · rw [if_pos ec, if_pos ((kclub ha hb h25 h26 hc).mpr ec)]
      · rw [if_neg ec, if_neg (fun q => ec ((kclub ha hb h25 h26 hc).mp q))]
    · rw [l31_off]
      by_cases ek : k = g
      · rw [if_pos ek, ek, h1]
        exact ⟨fun q => absurd q (by decide), fun q => absurd q (by decide)⟩
      · rw [if_neg ek]
theorem zbt_all : ∀ i, i < 28 → zbt 268435455 i = true := by decide +kernel
theorem mlays_off (I : Nat → Nat → Int32) (g : Nat) (v s : Int32) : mlays (zu (zu I 31 g v) 32 g (-1)) g s = mlays I g s := by
  unfold mlays
  rw [zu_comm (zu I 31 g v) (-1) 1 (by omega), zu_zu, zu_zu]
def kFh (J M : Nat → Nat → Int32) : Prop := ∀ a, a < 28 → a ≠ 4 → a ≠ 5 → a ≠ 6 → a ≠ 9 → a ≠ 10 → M a = J a
theorem kFh.rf (J : Nat → Nat → Int32) : kFh J J := fun _ _ _ _ _ _ _ => rfl
theorem kFh.tr {J M N : Nat → Nat → Int32} (h : kFh J M) (h2 : kFh M N) : kFh J N := fun a x y z u v w => (h2 a x y z u v w).trans (h a x y z u v w)
theorem kF9.h {J M : Nat → Nat → Int32} (h : kF9 J M) : kFh J M := fun a _ _ _ _ y z => h a y z
theorem kFh_u {J : Nat → Nat → Int32} {b k : Nat} {v : Int32} (hb : 28 ≤ b ∨ b = 4 ∨ b = 5 ∨ b = 6) : kFh J (zu J b k v) := fun a _ _ _ _ _ _ => zu_ne _ _ _ (by omega)
