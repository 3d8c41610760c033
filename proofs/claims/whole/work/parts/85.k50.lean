/-! the keeper's text -/
theorem kG_R {n : Nat} {K : Nat → Nat × Nat} {R R' : Nat → Nat → Option Nat} {P G : Nat} {pa ga : Nat → Nat} {ru sp ru' sp' : Nat} (h : kG n K R P G pa ga ru sp) (hr : (ru' = ru ∧ sp' = sp) ∨ (ru' = sp ∧ sp' = ru)) (h0 : ∀ k, k < 11 → R' 0 k = R 0 k) (h11 : R' 0 11 = some ru') (h12 : R' 0 12 = some sp') (h17 : R' 17 0 = R 17 0) (hR : ∀ a, a ≠ 0 → a ≠ 17 → R' a = R a) : kG n K R' P G pa ga ru' sp' := by
  obtain ⟨a1, a2, ⟨b0, b1, b2, b3, b4, b5, b6⟩, ⟨b7, b8, b9, b10, b11, b12⟩, c1, ⟨c2, c3, c4⟩, ⟨d1, d2, d3⟩, ⟨e1, e2⟩, ⟨f1, f2⟩⟩ := h
  refine ⟨a1, a2, ⟨?_, ?_, ?_, ?_, ?_, ?_, ?_⟩, ⟨?_, ?_, ?_, ?_, h11, h12⟩, ?_, ⟨?_, ?_, ?_⟩, ⟨?_, ?_, ?_⟩, ⟨fun g hg => ?_, e2⟩, ⟨fun p hp => ?_, f2⟩⟩
  · rw [h0 0 (by decide)]; exact b0
  · rw [h0 1 (by decide)]; exact b1
  · rw [h0 2 (by decide)]; exact b2
  · rw [h0 3 (by decide)]; exact b3
  · rw [h0 4 (by decide)]; exact b4
  · rw [h0 5 (by decide)]; exact b5
  · rw [h0 6 (by decide)]; exact b6
  · rw [h0 7 (by decide)]; exact b7
  · rw [h0 8 (by decide)]; exact b8
  · rw [h0 9 (by decide)]; exact b9
  · rw [h0 10 (by decide)]; exact b10
  · unfold kBd; rw [hR 8 (by decide) (by decide)]; exact c1
  · unfold kTp; rw [hR 11 (by decide) (by decide)]; exact c2
  · unfold kRr; rw [h17, hR 13 (by decide) (by decide)]; exact c3
  · unfold kTo; rw [hR 13 (by decide) (by decide)]; exact c4
  · unfold kRu; rw [hR 18 (by decide) (by decide)]; exact d1
  · unfold kRu; rw [hR 23 (by decide) (by decide)]; exact d2
  · omega
  · rw [hR 2 (by decide) (by decide)]; exact e1 g hg
  · have h28 := (f1 p hp).2.1
    unfold kPb kTf
    rw [hR 1 (by decide) (by decide), hR (pa p) (by omega) (by omega), hR (pa p + 1) (by omega) (by omega), hR (pa p + 3) (by omega) (by omega)]
    exact f1 p hp
def kClo (n : Nat) (R : Nat → Nat → Option Nat) : Prop := ∀ a, a < n → ∀ k b, R a k = some b → b < n
theorem kClo.put {n : Nat} {R : Nat → Nat → Option Nat} (h : kClo n R) (a k b : Nat) (hb : b < n) : kClo n (zu R a k (some b)) := fun c hc j d hd => by
  rw [zu_apply] at hd
  by_cases e : c = a ∧ j = k
  · rw [if_pos e] at hd
    cases hd
    exact hb
  · rw [if_neg e] at hd
    exact h c hc j d hd
theorem kClo.up {n : Nat} {R : Nat → Nat → Option Nat} (h : kClo n R) : kClo (n + 1) (va_up R n (fun _ => none)) := fun c hc j d hd => by
  by_cases e : c = n
  · rw [e, va_up_self] at hd
    cases hd
  · rw [va_up_ne _ _ e] at hd
    have := h c (by omega) j d hd
    omega
abbrev kQtext (n : Nat) (K : Nat → Nat × Nat) (J : Nat → Nat → Int32) (L : Nat → Nat → Int64) (R : Nat → Nat → Option Nat) (P G : Nat) (pa ga : Nat → Nat) (ru sp : Nat) (ts : List MLn) (x : Int32 × List MLn) : Option Value → ZH → Prop := fun r h => r = some (.int x.1) ∧ ∃ (M : Nat → Nat → Int32) (R' : Nat → Nat → Option Nat), h = (n, K, M, L, R') ∧ kG n K R' P G pa ga (if x.1 = 0 then sp else ru) (if x.1 = 0 then ru else sp) ∧ kTxt M (if x.1 = 0 then sp else ru) ((if x.1 = 0 then sp else ru) + 1) ((if x.1 = 0 then sp else ru) + 2) ((if x.1 = 0 then sp else ru) + 3) (if x.1 = 0 then x.2 else ts) ∧ (∀ a, ¬ kOut a → M a = J a) ∧ M 11 1 = 0 ∧ (kClo n R → kClo n R')
abbrev x8_text : ZX := (RX8, cX8_text, 3, (some .int), "text", 27, 1080, false)
set_option maxHeartbeats 4000000 in
theorem c8_text (n : Nat) (K : Nat → Nat × Nat) (J : Nat → Nat → Int32) (L : Nat → Nat → Int64) (R : Nat → Nat → Option Nat) (P G : Nat) (pa ga : Nat → Nat) (ru sp : Nat) (hG : kG n K R P G pa ga ru sp) (T : Nat) (ch : Nat → Nat) (ts : List MLn) (hT6 : T ≤ 600) (hpT : J 11 1 = nI T) (hch : ∀ j, j < T → J 12 j = nI (ch j) ∧ ch j ≤ 126) (hx : kTxt J ru (ru + 1) (ru + 2) (ru + 3) ts) : Zm yX8_text cX8_text 3 (some .int) 27 1080 0 0 [.ref 0] (n, K, J, L, R) (kQtext n K J L R P G pa ga ru sp ts (mTxt ch T)) := by
  refine Zm_of (lg := false) (by decide) (fun _ => by simp [Value.category]) (fun _ => Nat.le_of_ble_eq_true rfl) ?_
  show Zf x8_text 0 0 0 (zargs [.ref 0]) [] (n, K, J, L, R) _
  generalize hQ0 : (kQtext n K J L R P G pa ga ru sp ts (mTxt ch T) : Option Value → ZH → Prop) = Q0
  obtain ⟨⟨hn28, hP6, hG60⟩, ⟨hk0, hk1, hk2, hk3, hk4, hk5, hk6, hk7⟩, ⟨hr0, hr1, hr2, hr3, hr4, hr5, hr6⟩, ⟨hr7, hr8, hr9, hr10, hr11, hr12⟩, hB8, ⟨hT11, hR17, hT13⟩, ⟨hU18, hU23, hrs⟩, ⟨hgm, hgi⟩, ⟨hpm, hpi⟩⟩ := id hG
  have hn0 : 0 < n := by omega
  have hn1 : 1 < n := by omega
  have hn2 : 2 < n := by omega
  have hn3 : 3 < n := by omega
  have hn4 : 4 < n := by omega
  have hn5 : 5 < n := by omega
  have hn6 : 6 < n := by omega
  have hn7 : 7 < n := by omega
  have hn8 : 8 < n := by omega
  have hk8 : K 8 = (5, 0) := hB8.2.2.2.1
  have hn11 : 11 < n := by omega
  have hk11 : K 11 = (10, 0) := hT11.2.2.1
  have hn13 : 13 < n := by omega
  have hk13 : K 13 = (11, 0) := hT13.2.1.1
  have hn17 : 17 < n := by omega
  have hk17 : K 17 = (8, 0) := hR17.2.1.1
  obtain ⟨hUr, hUs⟩ := hG.ru
  have hnru : ru < n := hUr.1.1
  have hkru : K ru = (9, 0) := hUr.2.1.1
  have hnsp : sp < n := hUs.1.1
  have hksp : K sp = (9, 0) := hUs.2.1.1
  have hcut := c6_cut n K J L R 13 14 15 16 11 12 T ch hT13 hT11 hT6 hpT hch
  refine z_aload_n (i := 0) dX8_text_0 rfl rfl ?_
  refine z_gR zf8_54.g dX8_text_1 hn0 hk0 hr9 ?_
  refine z_aload_n (i := 0) dX8_text_4 rfl rfl ?_
  refine z_gR zf8_49.g dX8_text_5 hn0 hk0 hr8 ?_
  refine z_callV (st := []) (mc2 := 0) (ms2 := 0) zi8_128 zv_yX6_cut hcut dX8_text_8 hn13 (congrArg Prod.fst hk13) rfl rfl rfl (by decide) (by decide) (Nat.le_of_ble_eq_true rfl) (by decide) (by decide) (fun r h2 hq => ?_)
  obtain ⟨rfl, J1, rfl, hTk, hF1⟩ := hq
  try simp only [Option.toList, List.nil_append]
  refine z_aload_n (i := 0) dX8_text_11 rfl rfl ?_
  refine z_gR zf8_49.g dX8_text_12 hn0 hk0 hr8 ?_
  refine z_iconst (v := 0) dX8_text_15 (by decide) ?_
  refine z_putI zf8_125 dX8_text_16 (fun h => by cases h) hn11 hk11 ?_
  refine z_aload_n (i := 0) dX8_text_19 rfl rfl ?_
  refine z_gR zf8_63.g dX8_text_20 hn0 hk0 hr10 ?_
  refine z_aload_n (i := 0) dX8_text_23 rfl rfl ?_
  refine z_gR zf8_74.g dX8_text_24 hn0 hk0 hr12 ?_
  have hrd := c3_read n K (zu J1 11 1 0) L R hR17 hUs (kTk_cong hTk (zu_ne _ _ _ (by decide)) (zu_ne _ _ _ (by decide)) (zu_ne _ _ _ (by decide)) (zu_ne _ _ _ (by decide)))
  refine z_callV (st := []) (mc2 := 0) (ms2 := 0) zi8_132 zv_yX3_read hrd dX8_text_27 hn17 (congrArg Prod.fst hk17) rfl rfl rfl (by decide) (by decide) (Nat.le_of_ble_eq_true rfl) (by decide) (by decide) (fun r h2 hq => ?_)
  obtain ⟨rfl, J3, rfl, hF3, hX3⟩ := hq
  have e3 : ∀ a, a < 11 ∨ a = 12 ∨ 28 ≤ a → J3 a = J a := fun a ha => by
    rw [hF3.1 a (by omega) (by omega) (by omega) (by omega) (by omega), zu_ne _ _ _ (by omega), hF1.1 a (by omega) (by omega) (by omega) (by omega)]
  have er : ∀ a, ru ≤ a → a ≤ ru + 3 → J3 a = J a := fun a h1 h2 => by
    rw [hF3.1 a (by omega) (by omega) (by omega) (by omega) (by omega), zu_ne _ _ _ (by omega), hF1.1 a (by omega) (by omega) (by omega) (by omega)]
  have e11 : J3 11 1 = 0 := by
    rw [hF3.1 11 (by omega) (by omega) (by omega) (by omega) (by omega), zu_apply, if_pos ⟨rfl, rfl⟩]
  have hmt : pText (tkF (toks ch T 601 0)) (tpF (toks ch T 601 0) T) (tvF (toks ch T 601 0)) 18 0 [] [] = mTxt ch T := rfl
  rw [hmt] at hX3
  rw [hmt]
  generalize mTxt ch T = x at hX3 hQ0 ⊢
  refine z_istore_n (i := 1) dX8_text_30 rfl (by decide) rfl ?_
  refine z_iload_n (i := 1) dX8_text_31 rfl rfl ?_
  refine z_if_ne 53 dX8_text_32 (by decide) (fun c_1 => ?_) (fun c_1 => ?_)
  · skip
    have hz : ¬ x.1 = 0 := c_1
    refine z_iload_n (i := 1) dX8_text_53 rfl rfl ?_
    refine z_iret dX8_text_54 rfl ?_
    subst hQ0
    unfold kQtext
    rw [if_neg hz, if_neg hz, if_neg hz]
    exact ⟨rfl, J3, _, rfl, kG_R hG (Or.inl ⟨rfl, rfl⟩) (fun k _ => by rw [zu_ne _ _ _ (by decide)]) (by rw [zu_ne _ _ _ (by decide)]; exact hr11) (by rw [zu_ne _ _ _ (by decide)]; exact hr12) (by rw [zu_apply, if_neg (by omega)]) (fun a x y => by rw [zu_ne _ _ _ y]), kTxt_h hx er, fun a ha => e3 a (by unfold kOut at ha; omega), e11, fun hc => hc.put _ _ _ hnsp⟩
  · skip
    have hz : x.1 = 0 := c_1
    refine z_aload_n (i := 0) dX8_text_35 rfl rfl ?_
    refine z_gR zf8_70.g dX8_text_36 hn0 hk0 (by rw [zu_ne _ _ _ (by decide)]; exact hr11) ?_
    refine z_astore_n (i := 2) dX8_text_39 rfl (by decide) rfl ?_
    refine z_aload_n (i := 0) dX8_text_40 rfl rfl ?_
    refine z_aload_n (i := 0) dX8_text_41 rfl rfl ?_
    refine z_gR zf8_74.g dX8_text_42 hn0 hk0 (by rw [zu_ne _ _ _ (by decide)]; exact hr12) ?_
    refine z_putR zf8_70 dX8_text_45 (fun h => by cases h) hn0 hk0 ?_
    refine z_aload_n (i := 0) dX8_text_48 rfl rfl ?_
    refine z_aload_n (i := 2) dX8_text_49 rfl rfl ?_
    refine z_putR zf8_74 dX8_text_50 (fun h => by cases h) hn0 hk0 ?_
    refine z_iload_n (i := 1) dX8_text_53 rfl rfl ?_
    refine z_iret dX8_text_54 rfl ?_
    subst hQ0
    unfold kQtext
    rw [if_pos hz, if_pos hz, if_pos hz]
    exact ⟨rfl, J3, _, rfl, kG_R hG (Or.inr ⟨rfl, rfl⟩) (fun k hk => by rw [zu_apply, if_neg (by omega), zu_apply, if_neg (by omega), zu_ne _ _ _ (by decide)]) (by rw [zu_apply, if_neg (by omega), zu_apply, if_pos ⟨rfl, rfl⟩]) (by rw [zu_apply, if_pos ⟨rfl, rfl⟩]) (by rw [zu_ne _ _ _ (by decide), zu_ne _ _ _ (by decide), zu_apply, if_neg (by omega)]) (fun a x y => by rw [zu_ne _ _ _ x, zu_ne _ _ _ x, zu_ne _ _ _ y]), hX3 hz, fun a ha => e3 a (by unfold kOut at ha; omega), e11, fun hc => ((hc.put _ _ _ hnsp).put _ _ _ hnsp).put _ _ _ hnru⟩
