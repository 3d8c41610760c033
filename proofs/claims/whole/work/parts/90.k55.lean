/-! the two of them, side by side -/
def kRel (n : Nat) (K : Nat → Nat × Nat) (J : Nat → Nat → Int32) (R : Nat → Nat → Option Nat) (P G D : Nat) (pa ga : Nat → Nat) (ru sp : Nat) (I : Nat → Nat → Int32) (L9 : Nat → Nat → Int64) (T : Nat) (ch : Nat → Nat) (hd : Nat) (ts : List MLn) : Prop :=
  kG n K R P G pa ga ru sp ∧ kD J I P G D pa ga ∧ kOk I P G (24 * D) ∧ kIe I P ∧ kIz I P G ∧ (I 0 24 = nI P ∧ I 0 35 = nI G ∧ I 0 34 = nI D ∧ D ≤ 357) ∧ kTa J I T ch ∧ kTxt J ru (ru + 1) (ru + 2) (ru + 3) ts ∧ mtq I hd ts ∧ (∀ w, w < 12 → L9 5 w = mwords w) ∧ kClo n R
def zRel (hk hm : ZH) : Prop := ∃ (n : Nat) (K : Nat → Nat × Nat) (J : Nat → Nat → Int32) (L : Nat → Nat → Int64) (R : Nat → Nat → Option Nat) (P G D : Nat) (pa ga : Nat → Nat) (ru sp : Nat) (I : Nat → Nat → Int32) (L9 : Nat → Nat → Int64) (T : Nat) (ch : Nat → Nat) (hd : Nat) (ts : List MLn), hk = (n, K, J, L, R) ∧ hm = mh I L9 ∧ kRel n K J R P G D pa ga ru sp I L9 T ch hd ts
theorem kIz_I {P G : Nat} {I I' : Nat → Nat → Int32} (h : kIz I P G) (hI : ∀ a, 16 ≤ a → a ≤ 34 → I' a = I a) : kIz I' P G := by
  unfold kIz at *
  rw [hI 20 (by decide) (by decide), hI 21 (by decide) (by decide), hI 22 (by decide) (by decide), hI 23 (by decide) (by decide), hI 24 (by decide) (by decide), hI 33 (by decide) (by decide)]
  exact h
theorem mtq_I {hd : Nat} {ts : List MLn} {I I' : Nat → Nat → Int32} (h : mtq I hd ts) (h15 : I' 0 15 = I 0 15) (hI : ∀ a, 6 ≤ a → a ≤ 10 → I' a = I a) : mtq I' hd ts := mtq_keep h h15 (by rw [hI 6 (by decide) (by decide)]) (fun j _ _ => ⟨by rw [hI 7 (by decide) (by decide)], by rw [hI 8 (by decide) (by decide)]⟩) (fun j _ _ => ⟨by rw [hI 9 (by decide) (by decide)], by rw [hI 10 (by decide) (by decide)]⟩)
theorem kTa_I {J J' I I' : Nat → Nat → Int32} {T : Nat} {ch : Nat → Nat} (h : kTa J I T ch) (hJ : J' 11 1 = J 11 1) (hJ2 : J' 12 = J 12) (h2 : I' 0 2 = I 0 2) (h1 : I' 1 = I 1) : kTa J' I' T ch := by
  obtain ⟨x1, x2, x3, x4⟩ := h
  exact ⟨x1, by rw [hJ]; exact x2, by rw [h2]; exact x3, by rw [hJ2, h1]; exact x4⟩
/-- thrown is nothing to the two of them -/
theorem kRel_thr {n : Nat} {K : Nat → Nat × Nat} {J : Nat → Nat → Int32} {R : Nat → Nat → Option Nat} {P G D : Nat} {pa ga : Nat → Nat} {ru sp : Nat} {I : Nat → Nat → Int32} {L9 : Nat → Nat → Int64} {T : Nat} {ch : Nat → Nat} {hd : Nat} {ts : List MLn} (h : kRel n K J R P G D pa ga ru sp I L9 T ch hd ts) (v : Int32) : kRel n K J R P G D pa ga ru sp (zu I 0 0 v) L9 T ch hd ts := by
  obtain ⟨h1, h2, h3, h4, h5, ⟨a1, a2, a3, a4⟩, h7, h8, h9, h10⟩ := h
  have e : ∀ a, a ≠ 0 → zu I 0 0 v a = I a := fun a ha => zu_ne _ _ _ ha
  have e0 : ∀ k, k ≠ 0 → zu I 0 0 v 0 k = I 0 k := fun k hk => by rw [zu_apply, if_neg (fun q => hk q.2)]
  exact ⟨h1, kD_thr h2 0 v, kOk_I h3 (fun a _ _ => e a (by omega)), kIe_thr h4 0 v, kIz_I h5 (fun a _ _ => e a (by omega)), ⟨by rw [e0 24 (by decide)]; exact a1, by rw [e0 35 (by decide)]; exact a2, by rw [e0 34 (by decide)]; exact a3, a4⟩, kTa_I h7 rfl rfl (e0 2 (by decide)) (e 1 (by decide)), h8, mtq_I h9 (e0 15 (by decide)) (fun a _ _ => e a (by omega)), h10⟩
/-- both answer, with the same number, and stay side by side -/
def zAns (y8 : MethodName) (c8 : ByteArray) (l8 f8 o8 : Nat) (y9 : MethodName) (c9 : ByteArray) (l9 f9 o9 : Nat) (as : List Value) (hk hm : ZH) : Prop :=
  ∃ (mc ms : Nat) (Qk Qm : Option Value → ZH → Prop), mc ≤ 5 ∧ ms ≤ 59 ∧ Zm y8 c8 l8 (some .int) f8 o8 mc ms (.ref 0 :: as) hk Qk ∧ Zm y9 c9 l9 (some .int) f9 o9 0 0 (.ref 0 :: as) hm Qm ∧ ∀ (r : Option Value) (h : ZH) (r' : Option Value) (h' : ZH), Qk r h → Qm r' h' → (∃ v : Int32, r = some (.int v) ∧ r' = some (.int v)) ∧ zRel h h'
theorem zAns_q {y8 : MethodName} {c8 : ByteArray} {l8 f8 o8 : Nat} {y9 : MethodName} {c9 : ByteArray} {l9 f9 o9 : Nat} {as : List Value} {n : Nat} {K : Nat → Nat × Nat} {J : Nat → Nat → Int32} {L : Nat → Nat → Int64} {R : Nat → Nat → Option Nat} {P G D : Nat} {pa ga : Nat → Nat} {ru sp : Nat} {I : Nat → Nat → Int32} {L9 : Nat → Nat → Int64} {T : Nat} {ch : Nat → Nat} {hd : Nat} {ts : List MLn} (h : kRel n K J R P G D pa ga ru sp I L9 T ch hd ts) (v : Int32)
    (h8 : Zm y8 c8 l8 (some .int) f8 o8 0 0 (.ref 0 :: as) (n, K, J, L, R) (kQ (some (.int v)) n K J L R)) (h9 : Zm y9 c9 l9 (some .int) f9 o9 0 0 (.ref 0 :: as) (mh I L9) (mQ (some (.int v)) (zu I 0 0 0) L9)) : zAns y8 c8 l8 f8 o8 y9 c9 l9 f9 o9 as (n, K, J, L, R) (mh I L9) := by
  refine ⟨0, 0, _, _, by omega, by omega, h8, h9, fun r h1 r' h2 q1 q2 => ?_⟩
  obtain ⟨rfl, rfl⟩ := q1
  obtain ⟨rfl, rfl⟩ := q2
  exact ⟨⟨v, rfl, rfl⟩, n, K, J, L, R, P, G, D, pa, ga, ru, sp, zu I 0 0 0, L9, T, ch, hd, ts, rfl, rfl, kRel_thr h 0⟩
theorem q_field {hk hm : ZH} (hz : zRel hk hm) (p w : Int32) : zAns yX8_field cX8_field 4 2 80 yX9_field cX9_field 3 1 40 [.int p, .int w] hk hm := by
  obtain ⟨n, K, J, L, R, P, G, D, pa, ga, ru, sp, I, L9, T, ch, hd, ts, rfl, rfl, hr⟩ := hz
  obtain ⟨hG, hKD, hok, hie, hiz, ⟨h24, h35, h34, hD⟩, hta, htx, htq, hw5, hclo⟩ := id hr
  have hP6 : P ≤ 6 := hG.1.2.1
  have hG6 : G ≤ 60 := hG.1.2.2
  rcases pk_ix p (n := P) (by omega) with h1 | h1 | ⟨j, hj, rfl⟩
  · exact zAns_q hr _ (c8_field0 n K J L R P G pa ga ru sp hG I D hKD p (Or.inl h1) w) (c9_field0 I L9 P hP6 h24 p (Or.inl h1) w)
  · exact zAns_q hr _ (c8_field0 n K J L R P G pa ga ru sp hG I D hKD p (Or.inr h1) w) (c9_field0 I L9 P hP6 h24 p (Or.inr h1) w)
  · exact zAns_q hr _ (c8_field n K J L R P G pa ga ru sp hG I D hKD j hj w) (c9_field I L9 P hP6 h24 j hj w)
theorem q_would {hk hm : ZH} (hz : zRel hk hm) (p w : Int32) : zAns yX8_would cX8_would 4 2 80 yX9_would cX9_would 3 1 40 [.int p, .int w] hk hm := by
  obtain ⟨n, K, J, L, R, P, G, D, pa, ga, ru, sp, I, L9, T, ch, hd, ts, rfl, rfl, hr⟩ := hz
  obtain ⟨hG, hKD, hok, hie, hiz, ⟨h24, h35, h34, hD⟩, hta, htx, htq, hw5, hclo⟩ := id hr
  have hP6 : P ≤ 6 := hG.1.2.1
  have hG6 : G ≤ 60 := hG.1.2.2
  rcases pk_ix p (n := P) (by omega) with h1 | h1 | ⟨j, hj, rfl⟩
  · exact zAns_q hr _ (c8_would0 n K J L R P G pa ga ru sp hG I D hKD p (Or.inl h1) w) (c9_would0 I L9 P hP6 h24 p (Or.inl h1) w)
  · exact zAns_q hr _ (c8_would0 n K J L R P G pa ga ru sp hG I D hKD p (Or.inr h1) w) (c9_would0 I L9 P hP6 h24 p (Or.inr h1) w)
  · exact zAns_q hr _ (c8_would n K J L R P G pa ga ru sp hG I D hKD j hj w) (c9_would I L9 P hP6 h24 j hj w)
theorem q_lt {x y : Int32} {N : Nat} (hN : N < 1000) (hy : y + 1 = nI N) (hy2 : y = nI (N - 1)) (h1 : 0 < N) (h : nI N ≤ x) : y < x := by
  rw [hy2]
  exact Int32.lt_of_lt_of_le ((zlt (by omega) (by omega)).mpr (by omega)) h
theorem q_grass {hk hm : ZH} (hz : zRel hk hm) (p r c : Int32) : zAns yX8_grass cX8_grass 4 1 40 yX9_grass cX9_grass 4 1 40 [.int p, .int r, .int c] hk hm := by
  obtain ⟨n, K, J, L, R, P, G, D, pa, ga, ru, sp, I, L9, T, ch, hd, ts, rfl, rfl, hr⟩ := hz
  obtain ⟨hG, hKD, hok, hie, hiz, ⟨h24, h35, h34, hD⟩, hta, htx, htq, hw5, hclo⟩ := id hr
  have hP6 : P ≤ 6 := hG.1.2.1
  have hG6 : G ≤ 60 := hG.1.2.2
  have hb : (p < 0 ∨ nI P ≤ p ∨ r < 0 ∨ 3 < r ∨ c < 0 ∨ 5 < c) → zAns yX8_grass cX8_grass 4 1 40 yX9_grass cX9_grass 4 1 40 [.int p, .int r, .int c] (n, K, J, L, R) (mh I L9) := fun hb => zAns_q hr _ (c8_grass0 n K J L R P G pa ga ru sp hG I D hKD p r c hb) (c9_grass0 I L9 P hP6 h24 p r c hb)
  rcases pk_ix p (n := P) (by omega) with h1 | h1 | ⟨j, hj, rfl⟩
  · exact hb (by simp [h1])
  · exact hb (by simp [h1])
  rcases pk_ix r (n := 4) (by omega) with h2 | h2 | ⟨a, ha, rfl⟩
  · exact hb (by simp [h2])
  · exact hb (by simp [q_lt (N := 4) (y := 3) (by omega) rfl rfl (by omega) h2])
  rcases pk_ix c (n := 6) (by omega) with h3 | h3 | ⟨b, hb2, rfl⟩
  · exact hb (by simp [h3])
  · exact hb (by simp [q_lt (N := 6) (y := 5) (by omega) rfl rfl (by omega) h3])
  exact zAns_q hr _ (c8_grass n K J L R P G pa ga ru sp hG I D hKD j a b hj ha hb2) (c9_grass I L9 P hP6 h24 j a b hj ha hb2)
theorem q_club {hk hm : ZH} (hz : zRel hk hm) (p w : Int32) : zAns yX8_club cX8_club 3 1 40 yX9_club cX9_club 3 2 80 [.int p, .int w] hk hm := by
  obtain ⟨n, K, J, L, R, P, G, D, pa, ga, ru, sp, I, L9, T, ch, hd, ts, rfl, rfl, hr⟩ := hz
  obtain ⟨hG, hKD, hok, hie, hiz, ⟨h24, h35, h34, hD⟩, hta, htx, htq, hw5, hclo⟩ := id hr
  have hP6 : P ≤ 6 := hG.1.2.1
  have hG6 : G ≤ 60 := hG.1.2.2
  rcases pk_ix p (n := 16) (by omega) with h1 | h1 | ⟨j, hj, rfl⟩
  · exact zAns_q hr _ (c8_club0 n K J L R P G pa ga ru sp hG I D hKD p w (Or.inl h1)) (c9_club0 I L9 p w (Or.inl h1))
  · exact zAns_q hr _ (c8_club0 n K J L R P G pa ga ru sp hG I D hKD p w (Or.inr h1)) (c9_club0 I L9 p w (Or.inr h1))
  · exact zAns_q hr _ (c8_club n K J L R P G pa ga ru sp hG I D hKD j hj w) (c9_club I L9 G hG6 h35 j hj w)
theorem q_at {hk hm : ZH} (hz : zRel hk hm) (d h p : Int32) : zAns yX8_at cX8_at 4 1 40 yX9_at cX9_at 4 2 80 [.int d, .int h, .int p] hk hm := by
  obtain ⟨n, K, J, L, R, P, G, D, pa, ga, ru, sp, I, L9, T, ch, hd, ts, rfl, rfl, hr⟩ := hz
  obtain ⟨hG, hKD, hok, hie, hiz, ⟨h24, h35, h34, hD⟩, hta, htx, htq, hw5, hclo⟩ := id hr
  have hP6 : P ≤ 6 := hG.1.2.1
  have hG6 : G ≤ 60 := hG.1.2.2
  have hb : (d < 0 ∨ 356 < d ∨ h < 0 ∨ 3 < h ∨ p < 0 ∨ nI P ≤ p) → zAns yX8_at cX8_at 4 1 40 yX9_at cX9_at 4 2 80 [.int d, .int h, .int p] (n, K, J, L, R) (mh I L9) := fun hb => zAns_q hr _ (c8_at0 n K J L R P G pa ga ru sp hG I D hKD d h p hb) (c9_at0 I L9 P hP6 h24 d h p hb)
  rcases pk_ix p (n := P) (by omega) with h1 | h1 | ⟨j, hj, rfl⟩
  · exact hb (by simp [h1])
  · exact hb (by simp [h1])
  rcases pk_ix h (n := 4) (by omega) with h2 | h2 | ⟨a, ha, rfl⟩
  · exact hb (by simp [h2])
  · exact hb (by simp [q_lt (N := 4) (y := 3) (by omega) rfl rfl (by omega) h2])
  rcases pk_ix d (n := 357) (by omega) with h3 | h3 | ⟨b, hb2, rfl⟩
  · exact hb (by simp [h3])
  · exact hb (by simp [q_lt (N := 357) (y := 356) (by omega) rfl rfl (by omega) h3])
  exact zAns_q hr _ (c8_at n K J L R P G pa ga ru sp hG I D hKD hok.1 b a j hb2 ha hj) (c9_at I L9 P hP6 h24 G hG6 h35 b a j hb2 ha hj)
theorem q_count {hk hm : ZH} (hz : zRel hk hm) (w : Int32) : zAns yX8_count cX8_count 2 1 40 yX9_count cX9_count 4 1 40 [.int w] hk hm := by
  obtain ⟨n, K, J, L, R, P, G, D, pa, ga, ru, sp, I, L9, T, ch, hd, ts, rfl, rfl, hr⟩ := hz
  obtain ⟨hG, hKD, hok, hie, hiz, ⟨h24, h35, h34, hD⟩, hta, htx, htq, hw5, hclo⟩ := id hr
  have hP6 : P ≤ 6 := hG.1.2.1
  have hG6 : G ≤ 60 := hG.1.2.2
  have h9 := c9_count I L9 P G hd w hP6 hG6 htq.1.1 h24 h35 htq.1.2.1
  rw [h24, h35, h34, htq.1.2.2.2.1, hta.2.2.1] at h9
  exact zAns_q hr _ (c8_count n K J L R P G pa ga ru sp hG I D hKD T ts.length hta.2.1 htx.2.1 w) h9
