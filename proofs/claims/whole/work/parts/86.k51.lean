/-! a pitch more -/
theorem zw8_9 : zNw RX8 9 2 5 := ⟨RX2, TX2, tyX2, zC2, zTB_of (by decide +kernel) rfl, zTB_of (by decide +kernel) rfl, zTB_of (by decide +kernel) rfl, by decide +kernel⟩
def kIz (I : Nat → Nat → Int32) (P G : Nat) : Prop := (∀ p, P ≤ p → p < 6 → I 20 p = 0 ∧ I 21 p = 0 ∧ I 22 p = 0 ∧ I 23 p = 0 ∧ I 24 p = 0) ∧ ∀ g, G ≤ g → g < 60 → I 33 g = 0
theorem kG_mono {n n' : Nat} {K K' : Nat → Nat × Nat} {R R' : Nat → Nat → Option Nat} {P G : Nat} {pa ga : Nat → Nat} {ru sp : Nat} (h : kG n K R P G pa ga ru sp) (hn : n ≤ n') (hK : ∀ a, a < n → K' a = K a) (hR : ∀ a, a < n → a ≠ 1 → a ≠ 2 → R' a = R a) (h1 : ∀ p, p < P → R' 1 p = R 1 p) (h2 : ∀ g, g < G → R' 2 g = R 2 g) : kG n' K' R' P G pa ga ru sp := by
  obtain ⟨⟨a1, a2, a3⟩, ⟨k0, k1, k2, k3, k4, k5, k6, k7⟩, ⟨b0, b1, b2, b3, b4, b5, b6⟩, ⟨b7, b8, b9, b10, b11, b12⟩, ⟨c1, c2, c3, c4, c5, c6, c7, c8, c9⟩, ⟨⟨d1, d2, d3, d4, d5⟩, ⟨⟨e1, e2, e3, e4, e5⟩, ⟨f1, f2, f3, f4, f5⟩, ⟨g1, g2, g3, g4⟩⟩, ⟨⟨i1, i2, i3, i4⟩, ⟨j1, j2, j3, j4⟩, ⟨l1, l2, l3⟩, m1⟩⟩, ⟨⟨⟨o1, o2, o3, o4, o5⟩, ⟨p1, p2, p3, p4, p5⟩, ⟨q1, q2, q3, q4⟩, r1⟩, ⟨⟨s1, s2, s3, s4, s5⟩, ⟨t1, t2, t3, t4, t5⟩, ⟨u1, u2, u3, u4⟩, v1⟩, w1⟩, ⟨x1, x2⟩, ⟨y1, y2⟩⟩ := h
  have r0 := hR 0 (by omega) (by decide) (by decide)
  have r8 := hR 8 (by omega) (by decide) (by decide)
  have r11 := hR 11 (by omega) (by decide) (by decide)
  have r13 := hR 13 (by omega) (by decide) (by decide)
  have r17 := hR 17 (by omega) (by decide) (by decide)
  have r18 := hR 18 (by omega) (by decide) (by decide)
  have r23 := hR 23 (by omega) (by decide) (by decide)
  refine ⟨⟨by omega, a2, a3⟩, ⟨by rw [hK 0 (by omega)]; exact k0, by rw [hK 1 (by omega)]; exact k1, by rw [hK 2 (by omega)]; exact k2, by rw [hK 3 (by omega)]; exact k3, by rw [hK 4 (by omega)]; exact k4, by rw [hK 5 (by omega)]; exact k5, by rw [hK 6 (by omega)]; exact k6, by rw [hK 7 (by omega)]; exact k7⟩, ?_, ?_, ⟨by omega, by omega, by omega, by rw [hK 8 (by omega)]; exact c4, by rw [hK 9 (by omega)]; exact c5, by rw [hK 10 (by omega)]; exact c6, by rw [r8]; exact c7, by rw [r8]; exact c8, c9⟩, ⟨⟨by omega, by omega, by rw [hK 11 (by omega)]; exact d3, by rw [hK 12 (by omega)]; exact d4, by rw [r11]; exact d5⟩, ⟨⟨by omega, by omega, by omega, by omega, by omega⟩, ⟨by rw [hK 17 (by omega)]; exact f1, by rw [hK 13 (by omega)]; exact f2, by rw [hK 14 (by omega)]; exact f3, by rw [hK 15 (by omega)]; exact f4, by rw [hK 16 (by omega)]; exact f5⟩, ⟨by rw [r17]; exact g1, by rw [r13]; exact g2, by rw [r13]; exact g3, by rw [r13]; exact g4⟩⟩, ⟨⟨by omega, by omega, by omega, by omega⟩, ⟨by rw [hK 13 (by omega)]; exact j1, by rw [hK 14 (by omega)]; exact j2, by rw [hK 15 (by omega)]; exact j3, by rw [hK 16 (by omega)]; exact j4⟩, ⟨by rw [r13]; exact l1, by rw [r13]; exact l2, by rw [r13]; exact l3⟩, m1⟩⟩, ⟨⟨⟨by omega, by omega, by omega, by omega, by omega⟩, ⟨by rw [hK 18 (by omega)]; exact p1, by rw [hK 19 (by omega)]; exact p2, by rw [hK 20 (by omega)]; exact p3, by rw [hK 21 (by omega)]; exact p4, by rw [hK 22 (by omega)]; exact p5⟩, ⟨by rw [r18]; exact q1, by rw [r18]; exact q2, by rw [r18]; exact q3, by rw [r18]; exact q4⟩, r1⟩, ⟨⟨by omega, by omega, by omega, by omega, by omega⟩, ⟨by rw [hK 23 (by omega)]; exact t1, by rw [hK 24 (by omega)]; exact t2, by rw [hK 25 (by omega)]; exact t3, by rw [hK 26 (by omega)]; exact t4, by rw [hK 27 (by omega)]; exact t5⟩, ⟨by rw [r23]; exact u1, by rw [r23]; exact u2, by rw [r23]; exact u3, by rw [r23]; exact u4⟩, v1⟩, w1⟩, ⟨fun g hg => ?_, x2⟩, ⟨fun p hp => ?_, y2⟩⟩
  · rw [r0]; exact ⟨b0, b1, b2, b3, b4, b5, b6⟩
  · rw [r0]; exact ⟨b7, b8, b9, b10, b11, b12⟩
  · obtain ⟨z1, z2, z3, z4⟩ := x1 g hg
    exact ⟨by rw [h2 g hg]; exact z1, z2, by omega, by rw [hK _ z3]; exact z4⟩
  · obtain ⟨z1, z2, z3, z4, ⟨y3, y4, y5, y6, y7⟩, ⟨y8, y9, y10, y11, y12⟩, z7, z8⟩ := y1 p hp
    exact ⟨by rw [h1 p hp]; exact z1, z2, by omega, by rw [hK _ (by omega)]; exact z4, ⟨by omega, by omega, by rw [hK _ y3]; exact y5, by rw [hK _ y4]; exact y6, by rw [hR _ y3 (by omega) (by omega)]; exact y7⟩, ⟨by omega, by omega, by rw [hK _ y8]; exact y10, by rw [hK _ y9]; exact y11, by rw [hR _ y8 (by omega) (by omega)]; exact y12⟩, by rw [hR _ (by omega) (by omega) (by omega)]; exact z7, by rw [hR _ (by omega) (by omega) (by omega)]; exact z8⟩
theorem kG_addP {n : Nat} {K : Nat → Nat × Nat} {R : Nat → Nat → Option Nat} {P G : Nat} {pa ga : Nat → Nat} {ru sp b : Nat} (h : kG n K R P G pa ga ru sp) (hP : P < 6) (hb : kPb n K R b) (h1 : R 1 P = some b) (hd : ∀ p, p < P → pa p + 5 ≤ b) : kG n K R (P + 1) G (va_up pa P b) ga ru sp := by
  obtain ⟨⟨a1, a2, a3⟩, a4, a5, a6, a7, a8, a9, a10, ⟨y1, y2⟩⟩ := h
  refine ⟨⟨a1, by omega, a3⟩, a4, a5, a6, a7, a8, a9, a10, ⟨fun p hp => ?_, fun p q hp hq hpq => ?_⟩⟩
  · by_cases e : p = P
    · rw [e, va_up_self]; exact ⟨h1, hb⟩
    · rw [va_up_ne _ _ e]; exact y1 p (by omega)
  · by_cases e : p = P
    · have e2 : q ≠ P := fun w => hpq (by rw [e, w])
      rw [e, va_up_self, va_up_ne _ _ e2]
      exact Or.inr (hd q (by omega))
    · rw [va_up_ne _ _ e]
      by_cases e2 : q = P
      · rw [e2, va_up_self]
        exact Or.inl (hd p (by omega))
      · rw [va_up_ne _ _ e2]
        exact y2 p q (by omega) (by omega) hpq
/-- what a new pitch at n brings -/
theorem kNt2c {n : Nat} {K : Nat → Nat × Nat} {J : Nat → Nat → Int32} {L : Nat → Nat → Int64} {R : Nat → Nat → Option Nat} {st : Int32} {h1 h2 : ZH} (e1 : h1 = kNt (n + 1, va_up K n (7, 0), va_up J n (fun _ => 0), va_up L n (fun _ => 0), va_up R n (fun _ => none)) st) (e2 : h2 = kNt (h1.1, h1.2.1, h1.2.2.1, h1.2.2.2.1, zu h1.2.2.2.2 n 0 (some (n + 1))) (1 - st)) (hc : kClo n R) : kClo (n + 5) h2.2.2.2.2 := by
  subst e1
  subst e2
  unfold kNt
  dsimp only
  exact ((((hc.up).up.up.put _ _ _ (by omega)).put _ _ _ (by omega)).up.up.put _ _ _ (by omega))
theorem kNt2 {n : Nat} {K : Nat → Nat × Nat} {J : Nat → Nat → Int32} {L : Nat → Nat → Int64} {R : Nat → Nat → Option Nat} {st : Int32} {h1 h2 : ZH} (e1 : h1 = kNt (n + 1, va_up K n (7, 0), va_up J n (fun _ => 0), va_up L n (fun _ => 0), va_up R n (fun _ => none)) st) (e2 : h2 = kNt (h1.1, h1.2.1, h1.2.2.1, h1.2.2.2.1, zu h1.2.2.2.2 n 0 (some (n + 1))) (1 - st)) : h2.1 = n + 5 ∧ ((∀ a, a < n → h2.2.1 a = K a) ∧ h2.2.1 n = (7, 0) ∧ h2.2.1 (n + 1) = (12, 0) ∧ h2.2.1 (n + 2) = (0, 24) ∧ h2.2.1 (n + 3) = (12, 0) ∧ h2.2.1 (n + 4) = (0, 24)) ∧ ((∀ a, a < n → h2.2.2.1 a = J a) ∧ (∀ k, h2.2.2.1 n k = 0) ∧ h2.2.2.1 (n + 1) 1 = st ∧ h2.2.2.1 (n + 1) 2 = 0 ∧ (∀ k, k < 24 → h2.2.2.1 (n + 2) k = 800) ∧ h2.2.2.1 (n + 3) 1 = 1 - st ∧ h2.2.2.1 (n + 3) 2 = 0 ∧ ∀ k, k < 24 → h2.2.2.1 (n + 4) k = 800) ∧ ((∀ a, a < n → h2.2.2.2.2 a = R a) ∧ h2.2.2.2.2 n 0 = some (n + 1) ∧ h2.2.2.2.2 (n + 1) 0 = some (n + 2) ∧ h2.2.2.2.2 (n + 3) 0 = some (n + 4)) := by
  subst e1
  subst e2
  unfold kNt
  dsimp only
  refine ⟨rfl, ⟨fun a ha => ?_, ?_, ?_, ?_, ?_, ?_⟩, ⟨fun a ha => ?_, fun k => ?_, ?_, ?_, fun k hk => ?_, ?_, ?_, fun k hk => ?_⟩, ⟨fun a ha => ?_, ?_, ?_, ?_⟩⟩
  · rw [va_up_ne _ _ (by omega), va_up_ne _ _ (by omega), va_up_ne _ _ (by omega), va_up_ne _ _ (by omega), va_up_ne _ _ (by omega)]
  · rw [va_up_ne _ _ (by omega), va_up_ne _ _ (by omega), va_up_ne _ _ (by omega), va_up_ne _ _ (by omega), va_up_self]
  · rw [va_up_ne _ _ (by omega), va_up_ne _ _ (by omega), va_up_ne _ _ (by omega), va_up_self]
  · rw [va_up_ne _ _ (by omega), va_up_ne _ _ (by omega), va_up_self]
  · rw [va_up_ne _ _ (by omega), va_up_self]
  · rw [va_up_self]
  · funext k
    unfold kfl
    rw [if_neg (by omega), zu_ne _ _ _ (by omega), va_up_ne _ _ (by omega), va_up_ne _ _ (by omega), if_neg (by omega), zu_ne _ _ _ (by omega), va_up_ne _ _ (by omega), va_up_ne _ _ (by omega), va_up_ne _ _ (by omega)]
  · unfold kfl
    rw [if_neg (by omega), zu_ne _ _ _ (by omega), va_up_ne _ _ (by omega), va_up_ne _ _ (by omega), if_neg (by omega), zu_ne _ _ _ (by omega), va_up_ne _ _ (by omega), va_up_ne _ _ (by omega), va_up_self]
  · unfold kfl
    rw [if_neg (by omega), zu_ne _ _ _ (by omega), va_up_ne _ _ (by omega), va_up_ne _ _ (by omega), if_neg (by omega), zu_apply, if_pos ⟨rfl, rfl⟩]
  · unfold kfl
    rw [if_neg (by omega), zu_ne _ _ _ (by omega), va_up_ne _ _ (by omega), va_up_ne _ _ (by omega), if_neg (by omega), zu_apply, if_neg (by omega), va_up_ne _ _ (by omega), va_up_self]
  · unfold kfl
    rw [if_neg (by omega), zu_ne _ _ _ (by omega), va_up_ne _ _ (by omega), va_up_ne _ _ (by omega), if_pos ⟨rfl, hk⟩]
  · unfold kfl
    rw [if_neg (by omega), zu_apply, if_pos ⟨rfl, rfl⟩]
  · unfold kfl
    rw [if_neg (by omega), zu_apply, if_neg (by omega), va_up_ne _ _ (by omega), va_up_self]
  · unfold kfl
    rw [if_pos ⟨rfl, hk⟩]
  · rw [zu_ne _ _ _ (by omega), va_up_ne _ _ (by omega), va_up_ne _ _ (by omega), zu_ne _ _ _ (by omega), zu_ne _ _ _ (by omega), va_up_ne _ _ (by omega), va_up_ne _ _ (by omega), va_up_ne _ _ (by omega)]
  · rw [zu_ne _ _ _ (by omega), va_up_ne _ _ (by omega), va_up_ne _ _ (by omega), zu_apply, if_pos ⟨rfl, rfl⟩]
  · rw [zu_ne _ _ _ (by omega), va_up_ne _ _ (by omega), va_up_ne _ _ (by omega), zu_ne _ _ _ (by omega), zu_apply, if_pos ⟨rfl, rfl⟩]
  · rw [zu_apply, if_pos ⟨rfl, rfl⟩]
def kptk (J : Nat → Nat → Int32) (P y : Nat) : Nat → Nat → Int32 := fun a k => if a = 3 ∧ k < y then J 3 k ||| (1 <<< (nI P &&& 31)) else J a k
theorem kptk_0 (J : Nat → Nat → Int32) (P : Nat) : kptk J P 0 = J := by
  funext a k
  unfold kptk
  rw [if_neg (by omega)]
theorem kptk_s (J : Nat → Nat → Int32) (P y : Nat) : zu (kptk J P y) 3 y (J 3 y ||| (1 <<< (nI P &&& 31))) = kptk J P (y + 1) := by
  funext a k
  rw [zu_apply]
  unfold kptk
  by_cases h : a = 3 ∧ k = y
  · obtain ⟨rfl, rfl⟩ := h
    rw [if_pos ⟨rfl, rfl⟩, if_pos ⟨rfl, by omega⟩]
  · rw [if_neg h]
    by_cases h2 : a = 3 ∧ k < y
    · rw [if_pos h2, if_pos ⟨h2.1, by omega⟩]
    · rw [if_neg h2, if_neg (fun q => h2 ⟨q.1, by
        have : ¬ k = y := fun e => h ⟨q.1, e⟩
        omega⟩)]
theorem kD_addP {n : Nat} {K : Nat → Nat × Nat} {R : Nat → Nat → Option Nat} {P G D ag : Nat} {pa ga : Nat → Nat} {ru sp : Nat} {J J5 I : Nat → Nat → Int32} {st : Int32} (hG : kG n K R P G pa ga ru sp) (h : kD J I P G D pa ga) (hP : P < 6) (hag : ag ≤ 2) (hz : kIz I P G) (j0 : ∀ a, a < n → J5 a = J a) (j1 : ∀ k, J5 n k = 0) (j2 : J5 (n + 1) 1 = st) (j3 : J5 (n + 1) 2 = 0) (j4 : ∀ k, k < 24 → J5 (n + 2) k = 800) (j5 : J5 (n + 3) 1 = 1 - st) (j6 : J5 (n + 3) 2 = 0) (j7 : ∀ k, k < 24 → J5 (n + 4) k = 800) : kD (zu (kptk J5 P (ag + 1)) 0 13 (nI (P + 1))) (mpit I P (nI ag) st) (P + 1) G D (va_up pa P n) ga := by
  obtain ⟨⟨hn28, -, -⟩, -, -, -, -, -, -, ⟨hgm, -⟩, ⟨hpm, hpi⟩⟩ := hG
  obtain ⟨⟨s1, s2, s3⟩, h2, h3, h4, h5⟩ := h
  have e : ∀ a, a ≠ 0 → a ≠ 3 → zu (kptk J5 P (ag + 1)) 0 13 (nI (P + 1)) a = J5 a := fun a x y => by
    rw [zu_ne _ _ _ x]
    funext k
    unfold kptk
    rw [if_neg (fun q => y q.1)]
  have e0 : ∀ k, k ≠ 13 → zu (kptk J5 P (ag + 1)) 0 13 (nI (P + 1)) 0 k = J 0 k := fun k hk => by
    rw [zu_apply, if_neg (by omega)]
    unfold kptk
    rw [if_neg (by omega), j0 0 (by omega)]
  have eI : ∀ a, a ≠ 0 → a ≠ 16 → a ≠ 17 → a ≠ 18 → a ≠ 19 → mpit I P (nI ag) st a = I a := fun a x1 x2 x3 x4 x5 => by
    unfold mpit
    rw [zu_ne _ _ _ x1]
    funext k
    unfold mfl
    rw [if_neg (by omega), zu_ne _ _ _ x3, zu_ne _ _ _ x2, zu_ne _ _ _ x1]
  have i17 : ∀ k, mpit I P (nI ag) st 17 k = if k = P then st else I 17 k := fun k => by
    unfold mpit
    rw [zu_ne _ _ _ (by decide)]
    unfold mfl
    rw [if_neg (by omega), zu_apply]
    by_cases e : k = P
    · rw [if_pos ⟨rfl, e⟩, if_pos e]
    · rw [if_neg (fun q => e q.2), if_neg e, zu_ne _ _ _ (by decide), zu_ne _ _ _ (by decide)]
  have i16 : ∀ k, mpit I P (nI ag) st 16 k = if k = P then nI ag else I 16 k := fun k => by
    unfold mpit
    rw [zu_ne _ _ _ (by decide)]
    unfold mfl
    rw [if_neg (by omega), zu_ne _ _ _ (by decide), zu_apply]
    by_cases e : k = P
    · rw [if_pos ⟨rfl, e⟩, if_pos e]
    · rw [if_neg (fun q => e q.2), if_neg e, zu_ne _ _ _ (by decide)]
  have i8 : ∀ a k, (a = 18 ∨ a = 19) → mpit I P (nI ag) st a k = if 24 * P ≤ k ∧ k < 24 * P + 24 then 800 else I a k := fun a k ha => by
    unfold mpit
    rw [zu_ne _ _ _ (by omega)]
    unfold mfl
    by_cases e : 24 * P ≤ k ∧ k < 24 * P + 24
    · rw [if_pos ⟨ha, e⟩, if_pos e]
    · rw [if_neg (fun q => e q.2), if_neg e, zu_ne _ _ _ (by omega), zu_ne _ _ _ (by omega), zu_ne _ _ _ (by omega)]
  refine ⟨⟨by rw [zu_apply, if_pos ⟨rfl, rfl⟩], by rw [e0 14 (by decide)]; exact s2, by rw [e0 15 (by decide)]; exact s3⟩, fun g hg => ?_, fun p hp => ?_, fun a p ha hp => ?_, ?_⟩
  · obtain ⟨-, g1, g2, -⟩ := hgm g hg
    exact kGm_cong (h2 g hg) (by rw [e _ (by omega) (by omega), j0 _ g2]) (fun a x y => by rw [eI a (by omega) (by omega) (by omega) (by omega) (by omega)])
  · by_cases ep : p = P
    · rw [ep, va_up_self]
      obtain ⟨z20, z21, z22, z23, z24⟩ := hz.1 P (Nat.le_refl _) hP
      unfold kPm
      rw [e n (by omega) (by omega), e (n + 1) (by omega) (by omega), e (n + 2) (by omega) (by omega), e (n + 3) (by omega) (by omega), e (n + 4) (by omega) (by omega), eI 20 (by decide) (by decide) (by decide) (by decide) (by decide), eI 21 (by decide) (by decide) (by decide) (by decide) (by decide), eI 22 (by decide) (by decide) (by decide) (by decide) (by decide), eI 23 (by decide) (by decide) (by decide) (by decide) (by decide), eI 24 (by decide) (by decide) (by decide) (by decide) (by decide), i17, if_pos rfl, z20, z21, z22, z23, z24]
      refine ⟨⟨j1 2, j1 3, j1 4⟩, ⟨j2, j3, fun k hk => ?_⟩, ⟨j5, j6, fun k hk => ?_⟩⟩
      · rw [i8 18 _ (Or.inl rfl), if_pos (by omega)]; exact j4 k hk
      · rw [i8 19 _ (Or.inr rfl), if_pos (by omega)]; exact j7 k hk
    · rw [va_up_ne _ _ ep]
      obtain ⟨-, p1, p2, -⟩ := hpm p (by omega)
      refine kPm_cong (h3 p (by omega)) (fun a x y => by rw [e a (by omega) (by omega), j0 a (by omega)]) (fun a x y z w => ?_) (fun k hk => ⟨?_, ?_⟩)
      · by_cases e17 : a = 17
        · rw [e17, i17, if_neg ep]
        · rw [eI a (by omega) (by omega) e17 z w]
      · rw [i8 18 _ (Or.inl rfl), if_neg (by omega)]
      · rw [i8 19 _ (Or.inr rfl), if_neg (by omega)]
  · rw [zu_ne _ _ _ (by decide), i16]
    unfold kptk
    by_cases ea : a < ag + 1
    · rw [if_pos ⟨rfl, ea⟩, zbt_or, zbt_bit (by omega) hp, j0 3 (by omega), h4 a p ha hp]
      by_cases ep : p = P
      · rw [if_pos ep, decide_eq_true ep, Bool.or_true, decide_eq_true (show p < P + 1 by omega), Bool.true_and, decide_eq_true (show ¬ nI ag < nI a from fun q => by have := (zlt (by omega) (by omega)).mp q; omega)]
      · rw [if_neg ep, decide_eq_false ep, Bool.or_false, show decide (p < P + 1) = decide (p < P) by rw [decide_eq_decide]; omega]
    · rw [if_neg (fun q => ea q.2), j0 3 (by omega), h4 a p ha hp]
      by_cases ep : p = P
      · rw [if_pos ep, decide_eq_false (show ¬ p < P by omega), Bool.false_and, decide_eq_false (show ¬ ¬ nI ag < nI a from fun q => q ((zlt (by omega) (by omega)).mpr (by omega))), Bool.and_false]
      · rw [if_neg ep, show decide (p < P + 1) = decide (p < P) by rw [decide_eq_decide]; omega]
  · exact kCl_cong h5 (by rw [e 4 (by decide) (by decide), j0 4 (by omega)]) (by rw [e 5 (by decide) (by decide), j0 5 (by omega)]) (by rw [e 6 (by decide) (by decide), j0 6 (by omega)]) (fun a ha => eI a (by omega) (by omega) (by omega) (by omega) (by omega))
theorem k3_2 {r : Int32} : 3 ≤ r ↔ 2 < r := by
  rw [Int32.le_iff_toInt_le, Int32.lt_iff_toInt_lt]
  show (3 : Int) ≤ _ ↔ (2 : Int) < _
  omega
theorem k1_1 {c : Int32} (h : 1 < c) : ¬ c ≤ 1 := by
  rw [Int32.le_iff_toInt_le]
  rw [Int32.lt_iff_toInt_lt] at h
  have h : (1 : Int) < c.toInt := h
  show ¬ c.toInt ≤ (1 : Int)
  omega
abbrev x8_pitch : ZX := (RX8, cX8_pitch, 5, (some .int), "pitch", 3, 120, false)
set_option maxHeartbeats 4000000 in
theorem l8_ptk {n : Nat} {K : Nat → Nat × Nat} {R : Nat → Nat → Option Nat} {L : Nat → Nat → Int64} {Q : Option Value → ZH → Prop} {J : Nat → Nat → Int32} {P ag : Nat} (hn0 : 0 < n) (hn3 : 3 < n) (hk0 : K 0 = (13, 0)) (hk3 : K 3 = (0, 3)) (hr2 : R 0 2 = some 3) (hP : P < 6) (hag : ag ≤ 2) (h13 : J 0 13 = nI P) (hQ : Q (some (.int (nI P))) (n, K, zu (kptk J P (ag + 1)) 0 13 (nI (P + 1)), L, R)) : ∀ (m y : Nat) (M : Nat → Nat → Int32) (ls : Nat → Option Value), ag + 1 - y < m → y ≤ ag + 1 → M = kptk J P y → ls 0 = some (.ref 0) → ls 1 = some (.int (nI ag)) → ls 3 = some (.int (nI P)) → ls 4 = some (.int (nI y)) → Zf x8_pitch 0 0 63 ls [] (n, K, M, L, R) Q := by
  intro m
  induction m with
  | zero => intro y M ls h; omega
  | succ m ih =>
  intro y M ls hm hy hM hl0 hl1 hl3 hl4
  subst hM
  by_cases hlt : y ≤ ag
  · have e3 : kptk J P y 3 y = J 3 y := by
      unfold kptk
      rw [if_neg (by omega)]
    refine z_iload dX8_pitch_63 hl4 ?_
    refine z_iload_n (i := 1) dX8_pitch_65 rfl hl1 ?_
    refine z_icmp_gt 88 dX8_pitch_66 (by decide) (fun c_1 => absurd c_1 (fun q => by have := (zlt (a := ag) (b := y) (by omega) (by omega)).mp q; omega)) (fun _ => ?_)
    refine z_aload_n (i := 0) dX8_pitch_69 rfl hl0 ?_
    refine z_gR zf8_21.g dX8_pitch_70 hn0 hk0 hr2 ?_
    refine z_iload dX8_pitch_73 hl4 ?_
    refine z_dup2 dX8_pitch_75 rfl rfl ?_
    refine z_iald dX8_pitch_76 hn3 hk3 (zvin (by omega) (by omega)) ?_
    rw [zcl (by omega), e3]
    refine z_iconst (v := 1) dX8_pitch_77 (by decide) ?_
    refine z_iload_n (i := 3) dX8_pitch_78 rfl hl3 ?_
    refine z_ishl dX8_pitch_79 ?_
    refine z_ior dX8_pitch_80 ?_
    refine z_iast dX8_pitch_81 hn3 hk3 (zvin (by omega) (by omega)) ?_
    rw [zcl (by omega), kptk_s]
    refine z_iinc dX8_pitch_82 hl4 rfl ?_
    refine z_goto 63 dX8_pitch_85 (by decide) ?_
    rw [zinc]
    exact ih (y + 1) _ _ (by omega) (by omega) rfl hl0 hl1 hl3 rfl
  · have hye : y = ag + 1 := by omega
    subst hye
    have e13 : kptk J P (ag + 1) 0 13 = nI P := by
      unfold kptk
      rw [if_neg (by omega)]
      exact h13
    refine z_iload dX8_pitch_63 hl4 ?_
    refine z_iload_n (i := 1) dX8_pitch_65 rfl hl1 ?_
    refine z_icmp_gt 88 dX8_pitch_66 (by decide) (fun _ => ?_) (fun c_1 => absurd ((zlt (a := ag) (b := ag + 1) (by omega) (by omega)).mpr (by omega)) c_1)
    refine z_aload_n (i := 0) dX8_pitch_88 rfl hl0 ?_
    refine z_dup dX8_pitch_89 rfl ?_
    refine z_gI zf8_77.g dX8_pitch_90 hn0 hk0 ?_
    rw [e13]
    refine z_iconst (v := 1) dX8_pitch_93 (by decide) ?_
    refine z_iadd dX8_pitch_94 ?_
    refine z_top (y := .int (nI (P + 1))) (by rw [zl1, nI_add]) ?_
    refine z_putI zf8_77 dX8_pitch_95 (fun h => by cases h) hn0 hk0 ?_
    refine z_iload_n (i := 3) dX8_pitch_98 rfl hl3 ?_
    refine z_iret dX8_pitch_99 rfl ?_
    exact hQ
abbrev kQpit (n : Nat) (J : Nat → Nat → Int32) (R : Nat → Nat → Option Nat) (P G D : Nat) (pa ga : Nat → Nat) (ru sp : Nat) (I' : Nat → Nat → Int32) : Option Value → ZH → Prop := fun r h => r = some (.int (nI P)) ∧ ∃ (K' : Nat → Nat × Nat) (M : Nat → Nat → Int32) (L' : Nat → Nat → Int64) (R' : Nat → Nat → Option Nat), h = (n + 5, K', M, L', R') ∧ kG (n + 5) K' R' (P + 1) G (va_up pa P n) ga ru sp ∧ kD M I' (P + 1) G D (va_up pa P n) ga ∧ (kClo n R → kClo (n + 5) R') ∧ ∀ a, 7 ≤ a → a < 28 → M a = J a
set_option maxHeartbeats 4000000 in
theorem c8_pitch (n : Nat) (K : Nat → Nat × Nat) (J : Nat → Nat → Int32) (L : Nat → Nat → Int64) (R : Nat → Nat → Option Nat) (P G : Nat) (pa ga : Nat → Nat) (ru sp : Nat) (hG : kG n K R P G pa ga ru sp) (I : Nat → Nat → Int32) (ag s : Nat) (hP5 : P < 6) (hag : ag ≤ 2) (hs1 : s ≤ 1) (hz : kIz I P G) (hKD : kD J I P G 0 pa ga) : Zm yX8_pitch cX8_pitch 5 (some .int) 3 120 5 59 [.ref 0, .int (nI ag), .int (nI s)] (n, K, J, L, R) (kQpit n J R P G 0 pa ga ru sp (mpit I P (nI ag) (nI s))) := by
  refine Zm_of (lg := false) (by decide) (fun _ => by simp [Value.category]) (fun _ => Nat.le_of_ble_eq_true rfl) ?_
  show Zf x8_pitch 5 59 0 (zargs [.ref 0, .int (nI ag), .int (nI s)]) [] (n, K, J, L, R) _
  generalize hQ0 : (kQpit n J R P G 0 pa ga ru sp (mpit I P (nI ag) (nI s)) : Option Value → ZH → Prop) = Q0
  obtain ⟨⟨hn28, hP6, hG60⟩, ⟨hk0, hk1, hk2, hk3, hk4, hk5, hk6, hk7⟩, ⟨hr0, hr1, hr2, hr3, hr4, hr5, hr6⟩, ⟨hr7, hr8, hr9, hr10, hr11, hr12⟩, hB8, ⟨hT11, hR17, hT13⟩, ⟨hU18, hU23, hrs⟩, ⟨hgm, hgi⟩, ⟨hpm, hpi⟩⟩ := id hG
  have hn0 : 0 < n := by omega
  have hn1 : 1 < n := by omega
  have hn2 : 2 < n := by omega
  have hn3 : 3 < n := by omega
  have hn4 : 4 < n := by omega
  have hn5 : 5 < n := by omega
  have hn6 : 6 < n := by omega
  have hn7 : 7 < n := by omega
  have hn8 : 8 < n := by omega
  have hk8 : K 8 = (5, 0) := hB8.2.2.2.1
  have hn11 : 11 < n := by omega
  have hk11 : K 11 = (10, 0) := hT11.2.2.1
  obtain ⟨⟨h13, h14, h15⟩, hdg, hdp, hdt, hdc⟩ := id hKD
  refine z_iload_n (i := 1) dX8_pitch_0 rfl rfl ?_
  refine z_if_lt 18 dX8_pitch_1 (by decide) (fun c_1 => absurd c_1 (nIneg (by omega))) (fun _ => ?_)
  refine z_iload_n (i := 1) dX8_pitch_4 rfl rfl ?_
  refine z_iconst (v := 3) dX8_pitch_5 (by decide) ?_
  refine z_icmp_ge 18 dX8_pitch_6 (by decide) (fun c_2 => absurd c_2 (fun q => by have := (zle (a := 3) (b := ag) (by omega) (by omega)).mp q; omega)) (fun _ => ?_)
  refine z_iload_n (i := 2) dX8_pitch_9 rfl rfl ?_
  refine z_if_lt 18 dX8_pitch_10 (by decide) (fun c_3 => absurd c_3 (nIneg (by omega))) (fun _ => ?_)
  refine z_iload_n (i := 2) dX8_pitch_13 rfl rfl ?_
  refine z_iconst (v := 1) dX8_pitch_14 (by decide) ?_
  refine z_icmp_le 20 dX8_pitch_15 (by decide) (fun _ => ?_) (fun c_4 => absurd ((zle (a := s) (b := 1) (by omega) (by omega)).mpr hs1) c_4)
  refine z_aload_n (i := 0) dX8_pitch_20 rfl rfl ?_
  refine z_gI zf8_77.g dX8_pitch_21 hn0 hk0 ?_
  rw [h13]
  refine z_aload_n (i := 0) dX8_pitch_24 rfl rfl ?_
  refine z_gR zf8_11.g dX8_pitch_25 hn0 hk0 hr0 ?_
  refine z_alenP dX8_pitch_28 hn1 hk1 rfl ?_
  rw [show Int32.ofNat 6 = nI 6 from rfl]
  refine z_icmp_ge 39 dX8_pitch_29 (by decide) (fun c_5 => absurd c_5 (fun q => by have := (zle (a := 6) (b := P) (by omega) (by omega)).mp q; omega)) (fun _ => ?_)
  refine z_aload_n (i := 0) dX8_pitch_32 rfl rfl ?_
  refine z_gI zf8_84.g dX8_pitch_33 hn0 hk0 ?_
  rw [h15]
  refine z_if_le 41 dX8_pitch_36 (by decide) (fun _ => ?_) (fun c_6 => absurd ((zle (a := 0) (b := 0) (by omega) (by omega)).mpr (by omega)) c_6)
  refine z_aload_n (i := 0) dX8_pitch_41 rfl rfl ?_
  refine z_gI zf8_77.g dX8_pitch_42 hn0 hk0 ?_
  rw [h13]
  refine z_istore_n (i := 3) dX8_pitch_45 rfl (by decide) rfl ?_
  refine z_aload_n (i := 0) dX8_pitch_46 rfl rfl ?_
  refine z_gR zf8_11.g dX8_pitch_47 hn0 hk0 hr0 ?_
  refine z_iload_n (i := 3) dX8_pitch_50 rfl rfl ?_
  refine z_new (mc2 := 4) (ms2 := 54) zw8_9 dX8_pitch_51 (by omega) (by omega) ?_
  refine z_dup dX8_pitch_54 rfl ?_
  refine z_iload_n (i := 2) dX8_pitch_55 rfl rfl ?_
  refine z_callI (st := [_, _, _]) (mc2 := 0) (ms2 := 0) zi8_87 zn_yX2_init rfl (c2_init (n + 1) _ _ _ _ n (nI s) (by omega) (va_up_self _ _ _)) dX8_pitch_56 rfl rfl (by decide) (by decide) (Nat.le_of_ble_eq_true rfl) (by decide) (by decide) (fun r h3 hq => ?_)
  obtain ⟨rfl, h1, h2, e1, e2, rfl⟩ := hq
  obtain ⟨f0, ⟨k0, k1', k2', k3', k4', k5'⟩, ⟨j0, j1, j2, j3, j4, j5, j6, j7⟩, ⟨q0, q1, q2, q3⟩⟩ := kNt2 e1 e2
  have hcl5 := kNt2c e1 e2
  clear e1 e2
  obtain ⟨n5, K5, J5, L5, R5⟩ := h2
  dsimp only at f0 k0 k1' k2' k3' k4' k5' j0 j1 j2 j3 j4 j5 j6 j7 q0 q1 q2 q3 hcl5 ⊢
  subst f0
  simp only [Option.toList, List.nil_append]
  refine z_aastP dX8_pitch_59 (show 1 < n + 5 by omega) (by rw [k0 1 (by omega)]; exact hk1) (show n < n + 5 by omega) k1' (zvin (by omega) (by omega)) ?_
  rw [zcl (by omega)]
  refine z_iconst (v := 0) dX8_pitch_60 (by decide) ?_
  refine z_istore (i := 4) dX8_pitch_61 (by decide) rfl ?_
  have hR9 : ∀ a, a < n → a ≠ 1 → zu (zu R5 n 1 (some (n + 1 + 2))) 1 P (some n) a = R a := fun a h1 h2 => by rw [zu_ne _ _ _ h2, zu_ne _ _ _ (by omega), q0 a h1]
  have hG5 : kG (n + 5) K5 (zu (zu R5 n 1 (some (n + 1 + 2))) 1 P (some n)) P G pa ga ru sp := kG_mono hG (by omega) k0 (fun a h1 h2 _ => hR9 a h1 h2) (fun p hp => by rw [zu_apply, if_neg (by omega), zu_ne _ _ _ (by omega), q0 1 (by omega)]) (fun g hg => by rw [hR9 2 (by omega) (by decide)])
  have hR8 : ∀ a, a ≠ 1 → zu (zu R5 n 1 (some (n + 1 + 2))) 1 P (some n) a = zu R5 n 1 (some (n + 1 + 2)) a := fun a h => zu_ne _ _ _ h
  have hPb : kPb (n + 5) K5 (zu (zu R5 n 1 (some (n + 1 + 2))) 1 P (some n)) n := by
    refine ⟨hn28, Nat.le_refl _, k1', ⟨by omega, by omega, k2', k3', ?_⟩, ⟨by omega, by omega, k4', k5', ?_⟩, ?_, ?_⟩
    · rw [hR8 _ (by omega), zu_ne _ _ _ (by omega)]; exact q2
    · rw [hR8 _ (by omega), zu_ne _ _ _ (by omega)]; exact q3
    · rw [hR8 _ (by omega), zu_apply, if_neg (by omega)]; exact q1
    · rw [hR8 _ (by omega), zu_apply, if_pos ⟨rfl, rfl⟩]
  have hG6 := kG_addP hG5 hP5 hPb (by rw [zu_apply, if_pos ⟨rfl, rfl⟩]) (fun p hp => (hpm p hp).2.2.1)
  have hD6 := kD_addP hG hKD hP5 hag hz j0 j1 j2 j3 j4 j5 j6 j7
  refine l8_ptk (J := J5) (by omega) (by omega) (by rw [k0 0 (by omega)]; exact hk0) (by rw [k0 3 (by omega)]; exact hk3) (by rw [hR9 0 (by omega) (by decide)]; exact hr2) hP5 hag (by rw [j0 0 (by omega)]; exact h13) ?_ 4 0 _ _ (by omega) (by omega) (kptk_0 J5 P).symm rfl rfl rfl rfl
  subst hQ0
  refine ⟨rfl, _, _, _, _, rfl, hG6, hD6, fun hc => ((hcl5 hc).put _ _ _ (by omega)).put _ _ _ (by omega), fun a h1 h2 => ?_⟩
  rw [zu_ne _ _ _ (by omega)]
  have : kptk J5 P (ag + 1) a = J5 a := by
    funext k
    unfold kptk
    rw [if_neg (by omega)]
  rw [this, j0 a (by omega)]
set_option maxHeartbeats 4000000 in
theorem c8_pitch0 (n : Nat) (K : Nat → Nat × Nat) (J : Nat → Nat → Int32) (L : Nat → Nat → Int64) (R : Nat → Nat → Option Nat) (P G : Nat) (pa ga : Nat → Nat) (ru sp : Nat) (hG : kG n K R P G pa ga ru sp) (I : Nat → Nat → Int32) (D : Nat) (age st : Int32) (hD : D ≤ 357) (hKD : kD J I P G D pa ga) (hb : age < 0 ∨ 2 < age ∨ st < 0 ∨ 1 < st ∨ P = 6 ∨ 0 < D) : Zm yX8_pitch cX8_pitch 5 (some .int) 3 120 0 0 [.ref 0, .int age, .int st] ((n, K, J, L, R)) (kQ (some (.int (-1))) n K J L R) := by
  refine Zm_of (lg := false) (by decide) (fun _ => by simp [Value.category]) (fun _ => Nat.le_of_ble_eq_true rfl) ?_
  show Zf x8_pitch 0 0 0 (zargs [.ref 0, .int age, .int st]) [] ((n, K, J, L, R)) _
  generalize hQ0 : (kQ (some (.int (-1))) n K J L R : Option Value → ZH → Prop) = Q0
  obtain ⟨⟨hn28, hP6, hG60⟩, ⟨hk0, hk1, hk2, hk3, hk4, hk5, hk6, hk7⟩, ⟨hr0, hr1, hr2, hr3, hr4, hr5, hr6⟩, ⟨hr7, hr8, hr9, hr10, hr11, hr12⟩, hB8, ⟨hT11, hR17, hT13⟩, ⟨hU18, hU23, hrs⟩, ⟨hgm, hgi⟩, ⟨hpm, hpi⟩⟩ := id hG
  have hn0 : 0 < n := by omega
  have hn1 : 1 < n := by omega
  have hn2 : 2 < n := by omega
  have hn3 : 3 < n := by omega
  have hn4 : 4 < n := by omega
  have hn5 : 5 < n := by omega
  have hn6 : 6 < n := by omega
  have hn7 : 7 < n := by omega
  have hn8 : 8 < n := by omega
  have hk8 : K 8 = (5, 0) := hB8.2.2.2.1
  have hn11 : 11 < n := by omega
  have hk11 : K 11 = (10, 0) := hT11.2.2.1
  obtain ⟨⟨h13, h14, h15⟩, hdg, hdp, hdt, hdc⟩ := id hKD
  refine z_iload_n (i := 1) dX8_pitch_0 rfl rfl ?_
  refine z_if_lt 18 dX8_pitch_1 (by decide) (fun c_1 => ?_) (fun c_1 => ?_)
  · skip
    refine z_iconst (v := (-1)) dX8_pitch_18 (by decide) ?_
    refine z_iret dX8_pitch_19 rfl ?_
    subst hQ0
    exact ⟨rfl, rfl⟩
  · skip
    refine z_iload_n (i := 1) dX8_pitch_4 rfl rfl ?_
    refine z_iconst (v := 3) dX8_pitch_5 (by decide) ?_
    refine z_icmp_ge 18 dX8_pitch_6 (by decide) (fun c_2 => ?_) (fun c_2 => ?_)
    · skip
      refine z_iconst (v := (-1)) dX8_pitch_18 (by decide) ?_
      refine z_iret dX8_pitch_19 rfl ?_
      subst hQ0
      exact ⟨rfl, rfl⟩
    · skip
      refine z_iload_n (i := 2) dX8_pitch_9 rfl rfl ?_
      refine z_if_lt 18 dX8_pitch_10 (by decide) (fun c_3 => ?_) (fun c_3 => ?_)
      · skip
        refine z_iconst (v := (-1)) dX8_pitch_18 (by decide) ?_
        refine z_iret dX8_pitch_19 rfl ?_
        subst hQ0
        exact ⟨rfl, rfl⟩
      · skip
        refine z_iload_n (i := 2) dX8_pitch_13 rfl rfl ?_
        refine z_iconst (v := 1) dX8_pitch_14 (by decide) ?_
        refine z_icmp_le 20 dX8_pitch_15 (by decide) (fun c_4 => ?_) (fun c_4 => ?_)
        · skip
          refine z_aload_n (i := 0) dX8_pitch_20 rfl rfl ?_
          refine z_gI zf8_77.g dX8_pitch_21 hn0 hk0 ?_
          rw [h13]
          refine z_aload_n (i := 0) dX8_pitch_24 rfl rfl ?_
          refine z_gR zf8_11.g dX8_pitch_25 hn0 hk0 hr0 ?_
          refine z_alenP dX8_pitch_28 hn1 hk1 rfl ?_
          rw [show Int32.ofNat 6 = nI 6 from rfl]
          refine z_icmp_ge 39 dX8_pitch_29 (by decide) (fun c_5 => ?_) (fun c_5 => ?_)
          · skip
            refine z_iconst (v := (-1)) dX8_pitch_39 (by decide) ?_
            refine z_iret dX8_pitch_40 rfl ?_
            subst hQ0
            exact ⟨rfl, rfl⟩
          · skip
            refine z_aload_n (i := 0) dX8_pitch_32 rfl rfl ?_
            refine z_gI zf8_84.g dX8_pitch_33 hn0 hk0 ?_
            rw [h15]
            refine z_if_le 41 dX8_pitch_36 (by decide) (fun c_6 => ?_) (fun c_6 => ?_)
            · skip
              subst hQ0
              exfalso
              rcases hb with h | h | h | h | h | h
              · exact c_1 h
              · exact c_2 (k3_2.mpr h)
              · exact c_3 h
              · exact absurd c_4 (k1_1 h)
              · exact c_5 ((zle (by omega) (by omega)).mpr (by omega))
              · have := (zle (a := D) (b := 0) (by omega) (by omega)).mp c_6
                omega
            · skip
              refine z_iconst (v := (-1)) dX8_pitch_39 (by decide) ?_
              refine z_iret dX8_pitch_40 rfl ?_
              subst hQ0
              exact ⟨rfl, rfl⟩
        · skip
          refine z_iconst (v := (-1)) dX8_pitch_18 (by decide) ?_
          refine z_iret dX8_pitch_19 rfl ?_
          subst hQ0
          exact ⟨rfl, rfl⟩
