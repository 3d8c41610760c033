/-- the answers of the two searches -/
def kRes (r m : Int32) (W : Nat) (q : Nat → Bool) : Prop := (r = -1 ∧ m = -1) ∨ ∃ S, S < 168 ∧ r = nI S ∧ m = nI (168 * W + S) ∧ q (168 * W + S) = true
theorem kRes_of {J I : Nat → Nat → Int32} {P G g W F9 F : Nat} {wished : Bool} {cl ps ws but but2 : Int32} (hF : (if 7 * W ≤ F9 then F9 else 7 * W) = 7 * W + F) (hF7 : F ≤ 7) (h : ∀ S, 24 * F ≤ S → S < 168 → kfP J 9 10 cl ps ws but S = mfP I P G g wished but2 (168 * W + S)) : kRes (mfind (kfP J 9 10 cl ps ws but) (24 * F) (168 - 24 * F)) (mfs I P G g W F9 wished but2) W (mfP I P G g wished but2) := by
  unfold mfs
  rw [hF, show 24 * (7 * W + F) = 168 * W + 24 * F by omega, show 24 * (7 * W + 7) - (168 * W + 24 * F) = 168 - 24 * F by omega]
  rcases mfind_shift (d := 168 * W) (168 - 24 * F) (24 * F) (fun x h1 h2 => h x h1 (by omega)) with ⟨a, b⟩ | ⟨x, a, b, c, e, f⟩
  · exact Or.inl ⟨a, b⟩
  · exact Or.inr ⟨x, by omega, e, f, c⟩
theorem kneg : ∀ x, x ≤ 400 → ¬ (0 : Int32) < 0 - nI x := by decide +kernel
theorem kfday {D W : Nat} (hD : D ≤ 400) (hW : W ≤ 50) : (if 0 < nI D - nI W * 7 then nI D - nI W * 7 else 0) = nI (D - 7 * W) := by
  rw [zl7, pk_mul]
  by_cases h : 7 * W ≤ D
  · obtain ⟨x, rfl⟩ : ∃ x, D = 7 * W + x := ⟨D - 7 * W, by omega⟩
    rw [show W * 7 = 7 * W by omega, zsub, Nat.add_sub_cancel_left]
    by_cases hx : x = 0
    · subst hx; rfl
    · exact if_pos (show (0 : Int32) < nI x from (zlt (a := 0) (b := x) (by omega) (by omega)).mpr (by omega))
  · obtain ⟨x, hx⟩ : ∃ x, W * 7 = D + x := ⟨7 * W - D, by omega⟩
    rw [hx, show D - 7 * W = 0 by omega, show nI D - nI (D + x) = 0 - nI x by rw [← nI_add]; grind, if_neg (kneg x (by omega))]
    rfl
abbrev x8_firstWish : ZX := (RX8, cX8_firstWish, 4, (some .int), "firstWish", 2, 80, false)
set_option maxHeartbeats 4000000 in
theorem c8_firstWish (n : Nat) (K : Nat → Nat × Nat) (J : Nat → Nat → Int32) (L : Nat → Nat → Int64) (R : Nat → Nat → Option Nat) (P G : Nat) (pa ga : Nat → Nat) (ru sp : Nat) (hG : kG n K R P G pa ga ru sp) (I : Nat → Nat → Int32) (D W g b : Nat) (but but2 : Int32) (hb : b < n) (hbk : K b = (6, 0)) (hD : D ≤ 357) (hW : W ≤ 50) (hDW : D ≤ 7 * W + 6) (h15 : J 0 15 = nI D) (hg : g < G) (hi : ∀ k, k < G → kIg I P k) (hB : kBw J I G W) (hT : kTr J I P) (hn : mth I g = false) (h29 : I 29 g = nI W) (hs2 : J b 2 = kcb I g) (hs3 : J b 3 = I 27 g) (hs5 : J b 5 = I 29 g) (hs6 : J b 6 = I 30 g) (hbut : (but = -1 ∧ but2 = -1) ∨ ∃ t, t < 168 ∧ but = nI t ∧ but2 = nI (168 * W + t)) : Zm yX8_firstWish cX8_firstWish 4 (some .int) 2 80 0 0 [.ref 0, .ref b, .int but] (n, K, J, L, R) (fun r h => ∃ v, r = some (.int v) ∧ h = (n, K, J, L, R) ∧ kRes v (mfs I P G g W D true but2) W (mfP I P G g true but2)) := by
  refine Zm_of (lg := false) (by decide) (fun _ => by simp [Value.category]) (fun _ => Nat.le_of_ble_eq_true rfl) ?_
  show Zf x8_firstWish 0 0 0 (zargs [.ref 0, .ref b, .int but]) [] (n, K, J, L, R) _
  obtain ⟨⟨hn28, hP6, hG60⟩, ⟨hk0, hk1, hk2, hk3, hk4, hk5, hk6, hk7⟩, ⟨hr0, hr1, hr2, hr3, hr4, hr5, hr6⟩, ⟨hr7, hr8, hr9, hr10, hr11, hr12⟩, hB8, ⟨hT11, hR17, hT13⟩, ⟨hU18, hU23, hrs⟩, ⟨hgm, hgi⟩, ⟨hpm, hpi⟩⟩ := id hG
  have hn0 : 0 < n := by omega
  have hn1 : 1 < n := by omega
  have hn2 : 2 < n := by omega
  have hn3 : 3 < n := by omega
  have hn4 : 4 < n := by omega
  have hn5 : 5 < n := by omega
  have hn6 : 6 < n := by omega
  have hn7 : 7 < n := by omega
  have hn8 : 8 < n := by omega
  have hk8 : K 8 = (5, 0) := hB8.2.2.2.1
  have hn11 : 11 < n := by omega
  have hk11 : K 11 = (10, 0) := hT11.2.2.1
  obtain ⟨-, ⟨ag, hag, h27⟩, -, -, -⟩ := hi g hg
  have hres : kRes (mfind (kfP J 9 10 (kcb I g) (J 3 ag) (I 30 g) but) (24 * (D - 7 * W)) (168 - 24 * (D - 7 * W))) (mfs I P G g W D true but2) W (mfP I P G g true but2) := by
    refine kRes_of (F := D - 7 * W) ?_ (by omega) (fun S h1 h2 => kfP_eq hG60 hB hT hi hg hW h2 (fun q => by rw [hn] at q; cases q.1) hag h27 (by simp) ?_)
    · by_cases e : 7 * W ≤ D
      · rw [if_pos e]; omega
      · rw [if_neg e]; omega
    · rcases hbut with ⟨e1, e2⟩ | ⟨t, ht, e1, e2⟩
      · rw [e1, e2]
        exact ⟨fun q => absurd q (nIne1 (by omega)), fun q => absurd q (nIne1 (by omega))⟩
      · rw [e1, e2, zeq (by omega) (by omega), zeq (by omega) (by omega)]
        omega
  have hbt : but = -1 ∨ ∃ t, t < 168 ∧ but = nI t := hbut.imp (fun q => q.1) (fun ⟨t, a, b, _⟩ => ⟨t, a, b⟩)
  refine z_aload_n (i := 0) dX8_firstWish_0 rfl rfl ?_
  refine z_gI zf8_84.g dX8_firstWish_1 hn0 hk0 ?_
  rw [h15]
  refine z_aload_n (i := 1) dX8_firstWish_4 rfl rfl ?_
  refine z_gI zf8_104 dX8_firstWish_5 hb hbk ?_
  rw [hs5, h29]
  refine z_bipush (v := 7) dX8_firstWish_8 (by decide) ?_
  refine z_imul dX8_firstWish_10 ?_
  refine z_isub dX8_firstWish_11 ?_
  refine z_istore_n (i := 3) dX8_firstWish_12 rfl (by decide) rfl ?_
  refine z_aload_n (i := 0) dX8_firstWish_13 rfl rfl ?_
  refine z_gR zf8_42.g dX8_firstWish_14 hn0 hk0 hr7 ?_
  refine z_aload_n (i := 1) dX8_firstWish_17 rfl rfl ?_
  refine z_gI zf8_214 dX8_firstWish_18 hb hbk ?_
  rw [hs2]
  refine z_aload_n (i := 0) dX8_firstWish_21 rfl rfl ?_
  refine z_gR zf8_21.g dX8_firstWish_22 hn0 hk0 hr2 ?_
  refine z_aload_n (i := 1) dX8_firstWish_25 rfl rfl ?_
  refine z_gI zf8_227 dX8_firstWish_26 hb hbk ?_
  rw [hs3, h27]
  refine z_iald dX8_firstWish_29 hn3 hk3 (zvin (by omega) (by omega)) ?_
  rw [zcl (by omega)]
  refine z_aload_n (i := 1) dX8_firstWish_30 rfl rfl ?_
  refine z_gI zf8_230 dX8_firstWish_31 hb hbk ?_
  rw [hs6]
  refine z_iload_n (i := 3) dX8_firstWish_34 rfl rfl ?_
  refine z_iload_n (i := 2) dX8_firstWish_35 rfl rfl ?_
  refine z_callV (st := []) (mc2 := 0) (ms2 := 0) zi8_233 zv_yX0_firstSlot (c0_firstSlot n K J L R 8 9 10 (D - 7 * W) (kcb I g) (J 3 ag) (I 30 g) (nI D - nI W * 7) but hB8 (by omega) (kfday (by omega) hW) hbt) dX8_firstWish_36 hn8 (congrArg Prod.fst hk8) rfl rfl rfl (by decide) (by decide) (Nat.le_of_ble_eq_true rfl) (by decide) (by decide) (fun r h2 hq => ?_)
  obtain ⟨rfl, rfl⟩ := hq
  refine z_iret dX8_firstWish_39 rfl ?_
  exact ⟨_, rfl, rfl, hres⟩
theorem kBw_0 {J I : Nat → Nat → Int32} {W : Nat} (h9 : ∀ d, d < 7 → J 9 d = 0) (h10 : ∀ d, d < 7 → J 10 d = 0) : kBw J I 0 W := by
  refine ⟨fun S hS => ?_, fun d c hd hc => ?_⟩
  · rw [h9 _ (by omega), zbt_0]
    exact ⟨fun q => (by cases q), fun ⟨g, a, _⟩ => by omega⟩
  · rw [h10 _ hd, zbt_0]
    exact ⟨fun q => (by cases q), fun ⟨g, a, _⟩ => by omega⟩
theorem kBw_skip {J I : Nat → Nat → Int32} {P j W : Nat} (h : kBw J I j W) (hi : kIg I P j) (hW : W ≤ 50) (hn : ¬ (mth I j = true ∧ I 29 j = nI W)) : kBw J I (j + 1) W := by
  have hS : ∀ S, S < 168 → ¬ (mth I j = true ∧ I 32 j = nI (168 * W + S)) := fun S hS q => by
    obtain ⟨w', S', hw', h29, hS', -, h32⟩ := kthere hi q.1
    have e := q.2
    rw [h32, zeq (by omega) (by omega)] at e
    exact hn ⟨q.1, by rw [h29, show w' = W by omega]⟩
  refine ⟨fun S h1 => (h.1 S h1).trans ⟨fun ⟨g, a, b⟩ => ⟨g, by omega, b⟩, fun ⟨g, a, b, c⟩ => ?_⟩, fun d c hd hc => (h.2 d c hd hc).trans ⟨fun ⟨g, a, b⟩ => ⟨g, by omega, b⟩, fun ⟨g, a, b, e, f⟩ => ?_⟩⟩
  · by_cases e : g = j
    · rw [e] at b c
      exact absurd ⟨b, c⟩ (hS S h1)
    · exact ⟨g, by omega, b, c⟩
  · by_cases e2 : g = j
    · obtain ⟨x, hx, e⟩ := e
      rw [e2] at b e
      exact absurd ⟨b, by rw [e]; congr 1; exact Nat.add_assoc _ _ _⟩ (hS (24 * d + x) (by omega))
    · exact ⟨g, by omega, b, e, f⟩
theorem kBw_add {J I : Nat → Nat → Int32} {P j W S : Nat} (h : kBw J I j W) (hi : kIg I P j) (hW : W ≤ 50) (hS : S < 168) (hm : mth I j = true) (h32 : I 32 j = nI (168 * W + S)) : kBw (kput J 9 10 S (kcb I j)) I (j + 1) W := by
  obtain ⟨h1, h2⟩ := h
  unfold kput
  refine ⟨fun S' hS' => ?_, fun d c hd hc => ?_⟩
  · rw [zu_ne _ _ _ (by decide), zu_apply]
    have key : zbt (if (9 : Nat) = 9 ∧ S' / 24 = S / 24 then J 9 (S / 24) ||| 1 <<< (nI (S % 24) &&& 31) else J 9 (S' / 24)) (S' % 24) = (zbt (J 9 (S' / 24)) (S' % 24) || decide (S' = S)) := by
      by_cases e : S' / 24 = S / 24
      · rw [if_pos ⟨rfl, e⟩, zbt_or, zbt_bit (by omega) (by omega), e]
        congr 1
        rw [decide_eq_decide]
        omega
      · rw [if_neg (fun q => e q.2), decide_eq_false (fun q => e (by rw [q])), Bool.or_false]
    rw [key, Bool.or_eq_true, h1 S' hS', decide_eq_true_iff]
    constructor
    · rintro (⟨k, a, b⟩ | e)
      · exact ⟨k, by omega, b⟩
      · exact ⟨j, by omega, hm, by rw [h32, e]⟩
    · rintro ⟨k, a, b, c⟩
      by_cases hk : k = j
      · rw [hk, h32, zeq (by omega) (by omega)] at c
        exact Or.inr (by omega)
      · exact Or.inl ⟨k, by omega, b, c⟩
  · rw [zu_apply]
    have key : zbt (if (10 : Nat) = 10 ∧ d = S / 24 then J 10 (S / 24) ||| kcb I j else zu J 9 (S / 24) (J 9 (S / 24) ||| 1 <<< (nI (S % 24) &&& 31)) 10 d) c = (zbt (J 10 d) c || (decide (d = S / 24) && mhc I j (nI c))) := by
      rw [zu_ne _ _ _ (by decide)]
      by_cases e : d = S / 24
      · rw [if_pos ⟨rfl, e⟩, zbt_or, kcb_b hi hc, decide_eq_true e, Bool.true_and, e]
      · rw [if_neg (fun q => e q.2), decide_eq_false e, Bool.false_and, Bool.or_false]
    rw [key, Bool.or_eq_true, h2 d c hd hc, Bool.and_eq_true, decide_eq_true_iff]
    constructor
    · rintro (⟨k, a, b⟩ | ⟨e, f⟩)
      · exact ⟨k, by omega, b⟩
      · exact ⟨j, by omega, hm, ⟨S % 24, by omega, by rw [h32]; congr 1; omega⟩, f⟩
    · rintro ⟨k, a, b, ⟨x, hx, e⟩, f⟩
      by_cases hk : k = j
      · rw [hk, h32, zeq (by omega) (by omega)] at e
        rw [hk] at f
        exact Or.inr ⟨by omega, f⟩
      · exact Or.inl ⟨k, by omega, b, ⟨x, hx, e⟩, f⟩
/-- nothing but the board -/
def kF9 (J J' : Nat → Nat → Int32) : Prop := ∀ a, a ≠ 9 → a ≠ 10 → J' a = J a
theorem kF9.rf (J : Nat → Nat → Int32) : kF9 J J := fun _ _ _ => rfl
theorem kF9.tr {J M N : Nat → Nat → Int32} (h : kF9 J M) (h2 : kF9 M N) : kF9 J N := fun a x y => (h2 a x y).trans (h a x y)
theorem kF9_put (J : Nat → Nat → Int32) (S : Nat) (cl : Int32) : kF9 J (kput J 9 10 S cl) := fun a x y => by unfold kput; rw [zu_ne _ _ _ y, zu_ne _ _ _ x]
theorem kF9_drop (J : Nat → Nat → Int32) (S : Nat) (cl : Int32) : kF9 J (kdrop J 9 10 S cl) := fun a x y => by unfold kdrop; rw [zu_ne _ _ _ y, zu_ne _ _ _ x]
abbrev x8_showWeek : ZX := (RX8, cX8_showWeek, 3, none, "showWeek", 2, 80, false)
set_option maxHeartbeats 4000000 in
theorem l8_showWeek {n : Nat} {K : Nat → Nat × Nat} {J : Nat → Nat → Int32} {L : Nat → Nat → Int64} {R : Nat → Nat → Option Nat} {Q : Option Value → ZH → Prop} {P G : Nat} {pa ga : Nat → Nat} {ru sp : Nat} (hG : kG n K R P G pa ga ru sp) {I : Nat → Nat → Int32} {W : Nat} (hW : W ≤ 50) (h14 : J 0 14 = nI G) (hdg : ∀ g, g < G → kGm J I (ga g) g) (hi : ∀ k, k < G → kIg I P k) (hQ : ∀ M, kF9 J M → kBw M I G W → Q none (n, K, M, L, R)) : ∀ (m j : Nat) (M : Nat → Nat → Int32), G - j < m → j ≤ G → kF9 J M → kBw M I j W → ∀ ls : Nat → Option Value, ls 0 = some (.ref 0) → ls 1 = some (.int (nI W)) → ls 2 = some (.int (nI j)) → Zf x8_showWeek 0 0 9 ls [] (n, K, M, L, R) Q := by
  intro m
  obtain ⟨⟨hn28, hP6, hG60⟩, ⟨hk0, hk1, hk2, hk3, hk4, hk5, hk6, hk7⟩, ⟨hr0, hr1, hr2, hr3, hr4, hr5, hr6⟩, ⟨hr7, hr8, hr9, hr10, hr11, hr12⟩, hB8, ⟨hT11, hR17, hT13⟩, ⟨hU18, hU23, hrs⟩, ⟨hgm, hgi⟩, ⟨hpm, hpi⟩⟩ := id hG
  have hn0 : 0 < n := by omega
  have hn1 : 1 < n := by omega
  have hn2 : 2 < n := by omega
  have hn3 : 3 < n := by omega
  have hn4 : 4 < n := by omega
  have hn5 : 5 < n := by omega
  have hn6 : 6 < n := by omega
  have hn7 : 7 < n := by omega
  have hn8 : 8 < n := by omega
  have hk8 : K 8 = (5, 0) := hB8.2.2.2.1
  have hn11 : 11 < n := by omega
  have hk11 : K 11 = (10, 0) := hT11.2.2.1
  induction m with
  | zero => intro j M h; omega
  | succ m ih =>
  intro j M hm hjG hF hB ls hl0 hl1 hl2
  have e14 : M 0 14 = nI G := by rw [hF 0 (by decide) (by decide)]; exact h14
  by_cases hj : j < G
  · obtain ⟨hgr, hg28, hga, hgk⟩ := hgm j hj
    have eM : M (ga j) = J (ga j) := hF _ (by omega) (by omega)
    have hgm0 := hdg j hj
    have hij := hi j hj
    have e5 : M (ga j) 5 = I 29 j := by rw [eM]; exact hgm0.2.1
    refine z_iload_n (i := 2) dX8_showWeek_9 rfl hl2 ?_
    refine z_aload_n (i := 0) dX8_showWeek_10 rfl hl0 ?_
    refine z_gI zf8_81.g dX8_showWeek_11 hn0 hk0 ?_
    rw [e14]
    refine z_icmp_ge 74 dX8_showWeek_14 (by decide) (fun c_1 => absurd c_1 (fun q => by have := (zle (by omega) (by omega)).mp q; omega)) (fun _ => ?_)
    refine z_aload_n (i := 0) dX8_showWeek_17 rfl hl0 ?_
    refine z_gR zf8_17.g dX8_showWeek_18 hn0 hk0 hr1 ?_
    refine z_iload_n (i := 2) dX8_showWeek_21 rfl hl2 ?_
    refine z_aaldQ dX8_showWeek_22 hn2 hk2 (zvin (by omega) (by omega)) (by rw [zcl (by omega)]; exact hgr) ?_
    refine z_gI zf8_104 dX8_showWeek_23 hga hgk ?_
    rw [e5]
    refine z_iload_n (i := 1) dX8_showWeek_26 rfl hl1 ?_
    refine z_icmp_ne 68 dX8_showWeek_27 (by decide) (fun c_2 => ?_) (fun c_2 => ?_)
    · skip
      refine z_iinc dX8_showWeek_68 hl2 rfl ?_
      refine z_goto 9 dX8_showWeek_71 (by decide) ?_
      rw [zinc]
      exact ih (j + 1) M (by omega) (by omega) hF (kBw_skip hB hij hW (fun q => c_2 q.2)) _ hl0 hl1 rfl
    · skip
      refine z_aload_n (i := 0) dX8_showWeek_30 rfl hl0 ?_
      refine z_gR zf8_17.g dX8_showWeek_31 hn0 hk0 hr1 ?_
      refine z_iload_n (i := 2) dX8_showWeek_34 rfl hl2 ?_
      refine z_aaldQ dX8_showWeek_35 hn2 hk2 (zvin (by omega) (by omega)) (by rw [zcl (by omega)]; exact hgr) ?_
      refine z_gI zf8_172.g dX8_showWeek_36 hga hgk ?_
      rw [eM]
      refine z_iconst (v := (-1)) dX8_showWeek_39 (by decide) ?_
      refine z_icmp_eq 68 dX8_showWeek_40 (by decide) (fun c_3 => ?_) (fun c_3 => ?_)
      · skip
        refine z_iinc dX8_showWeek_68 hl2 rfl ?_
        refine z_goto 9 dX8_showWeek_71 (by decide) ?_
        rw [zinc]
        refine ih (j + 1) M (by omega) (by omega) hF (kBw_skip hB hij hW (fun q => ?_)) _ hl0 hl1 rfl
        obtain ⟨w', S, hw', h29, hS, -, h32⟩ := kthere hij q.1
        rw [kslot_there hgm0 hw' h29 hS h32] at c_3
        exact nIne1 (by omega) c_3
      · skip
        have ht : mth I j = true := by
          cases ht : mth I j with
          | true => rfl
          | false => exact absurd (kslot_none hgm0 (knot hij ht)) c_3
        obtain ⟨w', S, hw', h29, hS, -, h32⟩ := kthere hij ht
        have hwe : w' = W := (zeq (by omega) (by omega)).mp (h29.symm.trans c_2)
        subst hwe
        have h8 := kslot_there hgm0 hw' h29 hS h32
        refine z_aload_n (i := 0) dX8_showWeek_43 rfl hl0 ?_
        refine z_gR zf8_42.g dX8_showWeek_44 hn0 hk0 hr7 ?_
        refine z_aload_n (i := 0) dX8_showWeek_47 rfl hl0 ?_
        refine z_gR zf8_17.g dX8_showWeek_48 hn0 hk0 hr1 ?_
        refine z_iload_n (i := 2) dX8_showWeek_51 rfl hl2 ?_
        refine z_aaldQ dX8_showWeek_52 hn2 hk2 (zvin (by omega) (by omega)) (by rw [zcl (by omega)]; exact hgr) ?_
        refine z_gI zf8_172.g dX8_showWeek_53 hga hgk ?_
        rw [eM, h8]
        refine z_aload_n (i := 0) dX8_showWeek_56 rfl hl0 ?_
        refine z_gR zf8_17.g dX8_showWeek_57 hn0 hk0 hr1 ?_
        refine z_iload_n (i := 2) dX8_showWeek_60 rfl hl2 ?_
        refine z_aaldQ dX8_showWeek_61 hn2 hk2 (zvin (by omega) (by omega)) (by rw [zcl (by omega)]; exact hgr) ?_
        refine z_gI zf8_214 dX8_showWeek_62 hga hgk ?_
        rw [eM, show J (ga j) 2 = kcb I j from hgm0.1.2.2.1]
        refine z_callV (st := []) (mc2 := 0) (ms2 := 0) zi8_217 zv_yX0_put (c0_put n K M L R 8 9 10 S (kcb I j) hB8 hS) dX8_showWeek_65 hn8 (congrArg Prod.fst hk8) rfl rfl rfl (by decide) (by decide) (Nat.le_of_ble_eq_true rfl) (by decide) (by decide) (fun r h2 hq => ?_)
        obtain ⟨rfl, rfl⟩ := hq
        try simp only [Option.toList, List.nil_append]
        refine z_iinc dX8_showWeek_68 hl2 rfl ?_
        refine z_goto 9 dX8_showWeek_71 (by decide) ?_
        rw [zinc]
        exact ih (j + 1) _ (by omega) (by omega) (hF.tr (kF9_put M S (kcb I j))) (kBw_add hB hij hw' hS ht h32) _ hl0 hl1 rfl
  · have hje : j = G := by omega
    subst hje
    refine z_iload_n (i := 2) dX8_showWeek_9 rfl hl2 ?_
    refine z_aload_n (i := 0) dX8_showWeek_10 rfl hl0 ?_
    refine z_gI zf8_81.g dX8_showWeek_11 hn0 hk0 ?_
    rw [e14]
    refine z_icmp_ge 74 dX8_showWeek_14 (by decide) (fun _ => ?_) (fun c_1 => absurd ((zle (by omega) (by omega)).mpr (Nat.le_refl _)) c_1)
    refine z_vret dX8_showWeek_74 rfl ?_
    exact hQ M hF hB
set_option maxHeartbeats 4000000 in
theorem c8_showWeek (n : Nat) (K : Nat → Nat × Nat) (J : Nat → Nat → Int32) (L : Nat → Nat → Int64) (R : Nat → Nat → Option Nat) (P G : Nat) (pa ga : Nat → Nat) (ru sp : Nat) (hG : kG n K R P G pa ga ru sp) (I : Nat → Nat → Int32) (W : Nat) (hW : W ≤ 50) (h14 : J 0 14 = nI G) (hdg : ∀ g, g < G → kGm J I (ga g) g) (hi : ∀ k, k < G → kIg I P k) : Zm yX8_showWeek cX8_showWeek 3 none 2 80 0 0 [.ref 0, .int (nI W)] ((n, K, J, L, R)) (fun r h => r = none ∧ ∃ M, h = (n, K, M, L, R) ∧ kF9 J M ∧ kBw M I G W) := by
  refine Zm_of (lg := false) (by decide) (fun _ => by simp [Value.category]) (fun _ => Nat.le_of_ble_eq_true rfl) ?_
  show Zf x8_showWeek 0 0 0 (zargs [.ref 0, .int (nI W)]) [] ((n, K, J, L, R)) _
  obtain ⟨⟨hn28, hP6, hG60⟩, ⟨hk0, hk1, hk2, hk3, hk4, hk5, hk6, hk7⟩, ⟨hr0, hr1, hr2, hr3, hr4, hr5, hr6⟩, ⟨hr7, hr8, hr9, hr10, hr11, hr12⟩, hB8, ⟨hT11, hR17, hT13⟩, ⟨hU18, hU23, hrs⟩, ⟨hgm, hgi⟩, ⟨hpm, hpi⟩⟩ := id hG
  have hn0 : 0 < n := by omega
  have hn1 : 1 < n := by omega
  have hn2 : 2 < n := by omega
  have hn3 : 3 < n := by omega
  have hn4 : 4 < n := by omega
  have hn5 : 5 < n := by omega
  have hn6 : 6 < n := by omega
  have hn7 : 7 < n := by omega
  have hn8 : 8 < n := by omega
  have hk8 : K 8 = (5, 0) := hB8.2.2.2.1
  have hn11 : 11 < n := by omega
  have hk11 : K 11 = (10, 0) := hT11.2.2.1
  refine z_aload_n (i := 0) dX8_showWeek_0 rfl rfl ?_
  refine z_gR zf8_42.g dX8_showWeek_1 hn0 hk0 hr7 ?_
  refine z_callV (st := []) (mc2 := 0) (ms2 := 0) zi8_211 zv_yX0_clear (c0_clear n K J L R 8 9 10 hB8) dX8_showWeek_4 hn8 (congrArg Prod.fst hk8) rfl rfl rfl (by decide) (by decide) (Nat.le_of_ble_eq_true rfl) (by decide) (by decide) (fun r h2 hq => ?_)
  obtain ⟨rfl, rfl⟩ := hq
  try simp only [Option.toList, List.nil_append]
  refine z_iconst (v := 0) dX8_showWeek_7 (by decide) ?_
  refine z_istore_n (i := 2) dX8_showWeek_8 rfl (by decide) rfl ?_
  refine l8_showWeek hG hW h14 hdg hi (fun M h1 h2 => ⟨rfl, M, rfl, h1, h2⟩) (G + 1) 0 (kclr J 9 10 7) (by omega) (by omega) (fun a x y => ?_) (kBw_0 (fun d hd => ?_) (fun d hd => ?_)) _ rfl rfl rfl
  · funext j
    unfold kclr
    rw [if_neg (by omega)]
  · unfold kclr
    rw [if_pos ⟨Or.inl rfl, hd⟩]
  · unfold kclr
    rw [if_pos ⟨Or.inr rfl, hd⟩]
