theorem kG.rr {n : Nat} {K : Nat → Nat × Nat} {R : Nat → Nat → Option Nat} {P G : Nat} {pa ga : Nat → Nat} {ru sp : Nat} (h : kG n K R P G pa ga ru sp) : ru = 18 ∨ ru = 23 := by
  obtain ⟨-, -, -, -, -, -, ⟨-, -, h3⟩, -⟩ := h
  omega
theorem q_turn {hk hm : ZH} (hz : zRel hk hm) (p : Int32) : zAns yX8_turn cX8_turn 3 1 40 yX9_turn cX9_turn 2 1 40 [.int p] hk hm := by
  obtain ⟨n, K, J, L, R, P, G, D, pa, ga, ru, sp, I, L9, T, ch, hd, ts, rfl, rfl, hr⟩ := hz
  obtain ⟨hG, hKD, hok, hie, hiz, ⟨h24, h35, h34, hD⟩, hta, htx, htq, hw5, hclo⟩ := id hr
  have hP6 : P ≤ 6 := hG.1.2.1
  have hG6 : G ≤ 60 := hG.1.2.2
  rcases pk_ix p (n := P) (by omega) with h1 | h1 | ⟨j, hj, rfl⟩
  · exact zAns_q hr _ (c8_turn0 n K J L R P G pa ga ru sp hG I D hKD p (Or.inl h1)) (c9_turn0 I L9 P hP6 h24 p (Or.inl h1))
  · exact zAns_q hr _ (c8_turn0 n K J L R P G pa ga ru sp hG I D hKD p (Or.inr h1)) (c9_turn0 I L9 P hP6 h24 p (Or.inr h1))
  refine ⟨0, 0, _, _, by omega, by omega, (c8_turn n K J L R P G pa ga ru sp hG I D hKD j hj), c9_turn I L9 P hP6 h24 j hj, fun r h1 r' h2 q1 q2 => ?_⟩
  obtain ⟨rfl, rfl⟩ := q1
  obtain ⟨rfl, rfl⟩ := q2
  refine ⟨⟨_, rfl, rfl⟩, n, K, _, L, R, P, G, D, pa, ga, ru, sp, _, L9, T, ch, hd, ts, rfl, rfl, ?_⟩
  have hpb : 28 ≤ pa j := by
    obtain ⟨-, -, -, -, -, -, -, -, ⟨hpm, -⟩⟩ := hG
    exact (hpm j hj).2.1
  have eJ : ∀ a, a < 28 → zu (zu J (pa j + 3) 1 (I 17 j)) (pa j + 1) 1 (1 - I 17 j) a = J a := fun a ha => by rw [zu_ne _ _ _ (by omega), zu_ne _ _ _ (by omega)]
  have e : ∀ a, a ≠ 0 → a ≠ 17 → zu (zu I 0 0 0) 17 j (1 - I 17 j) a = I a := fun a ha hb => by rw [zu_ne _ _ _ hb, zu_ne _ _ _ ha]
  have e0 : ∀ k, k ≠ 0 → zu (zu I 0 0 0) 17 j (1 - I 17 j) 0 k = I 0 k := fun k hk => by rw [zu_ne _ _ _ (by decide), zu_apply, if_neg (fun q => hk q.2)]
  have hru := hG.rr
  exact ⟨hG, kD_turn hG hKD hj, kOk_I hok (fun a _ _ => e a (by omega) (by omega)), kIe_cong hie (e 18 (by decide) (by decide)) (e 19 (by decide) (by decide)), ⟨by rw [e 20 (by decide) (by decide), e 21 (by decide) (by decide), e 22 (by decide) (by decide), e 23 (by decide) (by decide), e 24 (by decide) (by decide)]; exact hiz.1, by rw [e 33 (by decide) (by decide)]; exact hiz.2⟩, ⟨by rw [e0 24 (by decide)]; exact h24, by rw [e0 35 (by decide)]; exact h35, by rw [e0 34 (by decide)]; exact h34, hD⟩, kTa_I hta (by rw [eJ 11 (by decide)]) (eJ 12 (by decide)) (e0 2 (by decide)) (e 1 (by decide) (by decide)), kTxt_h htx (fun a _ _ => eJ a (by omega)), mtq_I htq (e0 15 (by decide)) (fun a _ _ => e a (by omega) (by omega)), hw5, hclo⟩
theorem kRel_mok {n : Nat} {K : Nat → Nat × Nat} {J : Nat → Nat → Int32} {R : Nat → Nat → Option Nat} {P G D : Nat} {pa ga : Nat → Nat} {ru sp : Nat} {I : Nat → Nat → Int32} {L9 : Nat → Nat → Int64} {T : Nat} {ch : Nat → Nat} {hd : Nat} {ts : List MLn} (h : kRel n K J R P G D pa ga ru sp I L9 T ch hd ts) : mpre I P G D hd ts := by
  obtain ⟨h1, h2, h3, h4, h5, ⟨a1, a2, a3, a4⟩, h7, h8, h9, h10⟩ := h
  refine ⟨⟨h1.1.2.1, h1.1.2.2, a4, a1, a2, a3, fun g hg => ?_, fun g hg h0 => ?_⟩, h9.1, fun g hg => ?_⟩
  · obtain ⟨-, -, -, -, w, hw, e, -⟩ := h3.1.1 g hg
    exact ⟨w, hw, e⟩
  · obtain ⟨-, -, -, -, w, hw, e, hs⟩ := h3.1.1 g hg
    rcases hs with q | q
    · exact q.2.2
    · have q1 := q.1
      unfold mth at q1
      rw [h0] at q1
      exact absurd q1 (by decide)
  · obtain ⟨⟨a, b, ha, hb, -, e1, e2⟩, -⟩ := h3.1.1 g hg
    exact ⟨a, b, ha, hb, e1, e2⟩
theorem mgone_thr (I : Nat → Nat → Int32) (w v : Int32) : mgone (zu I 0 0 v) w = mgone I w := by
  unfold mgone
  rw [show zu I 0 0 v 0 34 = I 0 34 by rw [zu_apply, if_neg (by decide)]]
theorem q_lay {hk hm : ZH} (hz : zRel hk hm) (w : Int32) : zAns yX8_lay cX8_lay 5 6 240 yX9_lay_ cX9_lay_ 5 6 240 [.int w] hk hm := by
  obtain ⟨n, K, J, L, R, P, G, D, pa, ga, ru, sp, I, L9, T, ch, hd, ts, rfl, rfl, hr⟩ := hz
  obtain ⟨hG, hKD, hok, hie, hiz, ⟨h24, h35, h34, hD⟩, hta, htx, htq, hw5, hclo⟩ := id hr
  have hP6 : P ≤ 6 := hG.1.2.1
  have hG6 : G ≤ 60 := hG.1.2.2
  have hr0 := kRel_thr hr 0
  have hmok := (kRel_mok hr).1
  obtain ⟨-, hKD0, hok0, hie0, hiz0, ⟨i24, i35, i34, -⟩, hta0, -, htq0, -⟩ := id hr0
  have hK8 := c8_lay n K J L R P G pa ga ru sp hG (zu I 0 0 0) D (24 * D) w hD i34 hKD0 hok0
  have hK9 := c9_lay_ I L9 P G D w hmok
  rw [← mgone_thr I w 0] at hK9
  have e9 : (if mgone (zu I 0 0 0) w = 0 then (mlayR P G D w (zu I 0 0 0, 0) 10).1 else zu I 0 0 0) = (if mgone (zu I 0 0 0) w = 0 then (mlayR P G D w (zu I 0 0 0, 0) 10).1 else zu I 0 0 0) := rfl
  generalize hv : (if mgone (zu I 0 0 0) w = 0 then (mlayR P G D w (zu I 0 0 0, 0) 10).2 else -1) = v at hK9
  generalize hI : (if mgone (zu I 0 0 0) w = 0 then (mlayR P G D w (zu I 0 0 0, 0) 10).1 else zu I 0 0 0) = I' at hK9
  refine ⟨0, 0, _, _, by omega, by omega, hK8, hK9, fun r h1 r' h2 q1 q2 => ?_⟩
  obtain ⟨rfl, M, rfl, f1, f2, f3, f4⟩ := q1
  obtain ⟨rfl, rfl⟩ := q2
  rw [hI] at f2 f3 f4
  rw [hv]
  refine ⟨⟨_, rfl, rfl⟩, n, K, M, L, R, P, G, D, pa, ga, ru, sp, I', L9, T, ch, hd, ts, rfl, rfl, ?_⟩
  have e : ∀ a, a < 31 → I' a = zu I 0 0 0 a := fun a ha => f4 a (by omega) (by omega)
  have hru := hG.rr
  exact ⟨hG, f2, f3, kIe_cong hie0 (e 18 (by decide)) (e 19 (by decide)), ⟨by rw [e 20 (by decide), e 21 (by decide), e 22 (by decide), e 23 (by decide), e 24 (by decide)]; exact hiz0.1, by rw [f4 33 (by decide) (by decide)]; exact hiz0.2⟩, ⟨by rw [e 0 (by decide)]; exact i24, by rw [e 0 (by decide)]; exact i35, by rw [e 0 (by decide)]; exact i34, hD⟩, kTa_I hta0 (by rw [f1 11 (by decide) (by decide) (by decide)]) (f1 12 (by decide) (by decide) (by decide)) (by rw [e 0 (by decide)]) (e 1 (by decide)), kTxt_h htx (fun a _ _ => f1 a (by omega) (by omega) (by omega)), mtq_I htq0 (by rw [e 0 (by decide)]) (fun a _ _ => e a (by omega)), hw5, hclo⟩
/-! feed -/
def kFd (J I J' I' : Nat → Nat → Int32) : Prop := (∃ T ch, kTa J' I' T ch) ∧ (∀ a, a ≠ 11 → a ≠ 12 → J' a = J a) ∧ (∀ a, a ≠ 0 → a ≠ 1 → I' a = I a) ∧ ∀ k, k ≠ 2 → I' 0 k = I 0 k
theorem kFd.tr {J I J' I' J2 I2 : Nat → Nat → Int32} (h : kFd J I J' I') (h2 : kFd J' I' J2 I2) : kFd J I J2 I2 := ⟨h2.1, fun a x y => (h2.2.1 a x y).trans (h.2.1 a x y), fun a x y => (h2.2.2.1 a x y).trans (h.2.2.1 a x y), fun k x => (h2.2.2.2 k x).trans (h.2.2.2 k x)⟩
theorem kFd_1 {J I : Nat → Nat → Int32} {T : Nat} {ch : Nat → Nat} (h : kTa J I T ch) (c : Int32) : kFd J I (kfd1 J 11 12 c) (mfd1 I c) := by
  obtain ⟨h1, h2, h3, h4⟩ := id h
  unfold kfd1 mfd1
  rw [h2, h3]
  by_cases hc : mcOk c ∧ ¬ 600 ≤ nI T
  · rw [if_pos hc, if_pos hc]
    obtain ⟨k, hk, rfl⟩ := mcOk_n hc.1
    have hT : ¬ 600 ≤ T := fun q => hc.2 (show nI 600 ≤ nI T from (zle (by omega) (by omega)).mpr q)
    have hcl : (nI T).toNatClampNeg = T := zcl (by omega)
    rw [hcl]
    refine ⟨⟨T + 1, fun j => if j = T then k else ch j, by omega, by rw [zu_apply, if_pos ⟨rfl, rfl⟩, nI_1], by rw [zu_apply, if_pos ⟨rfl, rfl⟩, nI_1], fun j hj => ?_⟩, fun a x y => by rw [zu_ne _ _ _ x, zu_ne _ _ _ y], fun a x y => by rw [zu_ne _ _ _ x, zu_ne _ _ _ y], fun k x => by rw [zu_apply, if_neg (fun q => x q.2), zu_ne _ _ _ (by decide)]⟩
    rw [zu_ne _ 1 (nI T + 1) (show (12 : Nat) ≠ 11 by decide), zu_ne _ 2 (nI T + 1) (show (1 : Nat) ≠ 0 by decide), zu_apply, zu_apply]
    dsimp only
    by_cases hjT : j = T
    · rw [if_pos ⟨rfl, hjT⟩, if_pos hjT, if_pos ⟨rfl, hjT⟩]
      exact ⟨rfl, rfl, hk⟩
    · rw [if_neg (fun q => hjT q.2), if_neg hjT, if_neg (fun q => hjT q.2)]
      exact h4 j (by omega)
  · rw [if_neg hc, if_neg hc]
    exact ⟨⟨T, ch, h⟩, fun _ _ _ => rfl, fun _ _ _ => rfl, fun _ _ => rfl⟩
theorem kFd_d {J I : Nat → Nat → Int32} (h : ∃ T ch, kTa J I T ch) (v : Int64) : ∀ i, kFd J I (kfd J 11 12 v i) (mfd I v i)
  | 0 => ⟨h, fun _ _ _ => rfl, fun _ _ _ => rfl, fun _ _ => rfl⟩
  | i + 1 => by
    have h1 := kFd_d h v i
    obtain ⟨T, ch, h2⟩ := h1.1
    exact h1.tr (kFd_1 h2 (mby v i))
theorem q_feed {hk hm : ZH} (hz : zRel hk hm) (a b c : Int64) : zAns yX8_feed cX8_feed 7 1 40 yX9_feed cX9_feed 7 1 40 [.long a, .long b, .long c] hk hm := by
  obtain ⟨n, K, J, L, R, P, G, D, pa, ga, ru, sp, I, L9, T, ch, hd, ts, rfl, rfl, hr⟩ := hz
  obtain ⟨hG, hKD, hok, hie, hiz, ⟨h24, h35, h34, hD⟩, hta, htx, htq, hw5, hclo⟩ := id hr
  have hP6 : P ≤ 6 := hG.1.2.1
  have hG6 : G ≤ 60 := hG.1.2.2
  have hr0 := kRel_thr hr 0
  obtain ⟨-, hKD0, hok0, hie0, hiz0, ⟨i24, i35, i34, -⟩, hta0, -, htq0, -⟩ := id hr0
  have f1 := kFd_d ⟨T, ch, hta0⟩ a 8
  have f2 := f1.tr (kFd_d f1.1 b 8)
  have f3 := f2.tr (kFd_d f2.1 c 8)
  have hK8 := c8_feed n K J L R 0 11 12 a b c (by have := hG.1.1; omega) hG.2.1.1 hG.2.2.2.1.2.1 hG.2.2.2.2.2.1.1 ⟨T, hta.1, hta.2.1⟩
  have hK9 := c9_feed I L9 a b c ⟨T, hta.1, hta.2.2.1⟩
  generalize hJ : kfd (kfd (kfd J 11 12 a 8) 11 12 b 8) 11 12 c 8 = J' at hK8 f3
  generalize hI : mfd (mfd (mfd (zu I 0 0 0) a 8) b 8) c 8 = I' at hK9 f3
  obtain ⟨⟨T2, ch2, g1⟩, g2, g3, g4⟩ := f3
  refine ⟨0, 0, _, _, by omega, by omega, hK8, hK9, fun r h1 r' h2 q1 q2 => ?_⟩
  obtain ⟨rfl, rfl⟩ := q1
  obtain ⟨rfl, rfl⟩ := q2
  rw [g1.2.1, g1.2.2.1]
  refine ⟨⟨_, rfl, rfl⟩, n, K, J', L, R, P, G, D, pa, ga, ru, sp, I', L9, T2, ch2, hd, ts, rfl, rfl, ?_⟩
  have hru := hG.rr
  have e : ∀ a, 2 ≤ a → I' a = zu I 0 0 0 a := fun a ha => g3 a (by omega) (by omega)
  exact ⟨hG, kD_I (kD_out hG hKD0 (fun a ha => g2 a (fun q => ha (by unfold kOut; omega)) (fun q => ha (by unfold kOut; omega)))) (fun a _ _ => e a (by omega)), kOk_I hok0 (fun a _ _ => e a (by omega)), kIe_cong hie0 (e 18 (by decide)) (e 19 (by decide)), kIz_I hiz0 (fun a _ _ => e a (by omega)), ⟨by rw [g4 24 (by decide)]; exact i24, by rw [g4 35 (by decide)]; exact i35, by rw [g4 34 (by decide)]; exact i34, hD⟩, g1, kTxt_h htx (fun a _ _ => g2 a (by omega) (by omega)), mtq_I htq0 (g4 15 (by decide)) (fun a _ _ => e a (by omega)), hw5, hclo⟩
theorem q_text {hk hm : ZH} (hz : zRel hk hm) : zAns yX8_text cX8_text 3 27 1080 yX9_text cX9_text 1 4 160 [] hk hm := by
  obtain ⟨n, K, J, L, R, P, G, D, pa, ga, ru, sp, I, L9, T, ch, hd, ts, rfl, rfl, hr⟩ := hz
  obtain ⟨hG, hKD, hok, hie, hiz, ⟨h24, h35, h34, hD⟩, hta, htx, htq, hw5, hclo⟩ := id hr
  have hP6 : P ≤ 6 := hG.1.2.1
  have hG6 : G ≤ 60 := hG.1.2.2
  have hK8 := c8_text n K J L R P G pa ga ru sp hG T ch ts hta.1 hta.2.1 (fun j hj => ⟨(hta.2.2.2 j hj).1, (hta.2.2.2 j hj).2.2⟩) htx
  have hK9 := c9_text I L9 ch T hta.1 hta.2.2.1 (fun j hj => (hta.2.2.2 j hj).2) hw5 hd ts htq
  generalize hx : mTxt ch T = x at hK8 hK9
  refine ⟨0, 0, _, _, by omega, by omega, hK8, hK9, fun r h1 r' h2 q1 q2 => ?_⟩
  obtain ⟨rfl, M, R', rfl, f1, f2, f3, f4, f5⟩ := q1
  dsimp only [mQt] at q2
  rw [hx] at q2
  obtain ⟨rfl, I', L', rfl, g1, g2, g3, g4, g5, g6⟩ := q2
  refine ⟨⟨_, rfl, rfl⟩, n, K, M, L, R', P, G, D, pa, ga, (if x.fst = 0 then sp else ru), (if x.fst = 0 then ru else sp), I', L', 0, ch, (if x.fst = 0 then 1 - hd else hd), (if x.fst = 0 then x.snd else ts), rfl, rfl, ?_⟩
  have e : ∀ a, 14 ≤ a → I' a = I a := fun a ha => g2 a (by omega) (by omega) (by omega) (by omega) (by omega) (by omega) (by omega) (by omega) (by omega) (by omega) (by omega)
  have e0 : ∀ k, 24 ≤ k → I' 0 k = I 0 k := fun k hk => g3 k (by omega) (by omega) (by omega) (by omega) (by omega) (by omega) (by omega) (by omega) (by omega)
  exact ⟨f1, kD_I (kD_out hG hKD f3) (fun a _ _ => e a (by omega)), kOk_I hok (fun a _ _ => e a (by omega)), kIe_cong hie (e 18 (by decide)) (e 19 (by decide)), kIz_I hiz (fun a _ _ => e a (by omega)), ⟨by rw [e0 24 (by decide)]; exact h24, by rw [e0 35 (by decide)]; exact h35, by rw [e0 34 (by decide)]; exact h34, hD⟩, ⟨by omega, f4, g5, fun j hj => by omega⟩, f2, g1, by rw [g6 5 (by decide)]; exact hw5, f5 hclo⟩
