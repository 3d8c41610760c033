/-! the tokens of the class: pure -/
theorem rl_eq {p : Nat → Bool} {ch : Nat → Nat} {T : Nat} : ∀ (m a e : Nat), a ≤ e → e ≤ T → e - a < m → (∀ j, a ≤ j → j < e → p (ch j) = true) → (e = T ∨ p (ch e) = false) → rl p ch T m a = e
  | 0, a, e, _, _, h, _, _ => by omega
  | m + 1, a, e, h1, h2, h3, h4, h5 => by
    simp only [rl]
    by_cases h : a = e
    · subst h
      refine if_neg (fun q => ?_)
      rcases h5 with h5 | h5
      · omega
      · rw [h5] at q
        cases q.2
    · rw [if_pos ⟨by omega, h4 a (Nat.le_refl _) (by omega)⟩]
      exact rl_eq m (a + 1) e (by omega) h2 (by omega) (fun j x y => h4 j (by omega) y) h5
theorem toks_fuel {ch : Nat → Nat} {T : Nat} : ∀ (m m2 k : Nat), T - k < m → T - k < m2 → toks ch T m k = toks ch T m2 k
  | 0, _, _, h, _ => by omega
  | m + 1, m2, k, h1, h2 => by
    obtain ⟨q, rfl⟩ : ∃ q, m2 = q + 1 := ⟨m2 - 1, by omega⟩
    rw [toks_e, toks_e]
    by_cases hk : k < T
    · rw [if_pos hk, if_pos hk]
      have h3 := tok1_lt (ch := ch) hk
      rw [toks_fuel m q (k + 1) (by omega) (by omega), toks_fuel m q (tok1 ch T k).2 (by omega) (by omega)]
    · rw [if_neg hk, if_neg hk]
def tkz (ch : Nat → Nat) (T k : Nat) : List (Nat × Nat × Nat) := toks ch T 601 k
theorem tkz_e {ch : Nat → Nat} {T : Nat} (hT : T ≤ 600) (k : Nat) : tkz ch T k = if k < T then (if ch k = 10 ∨ ch k = 32 then tkz ch T (k + 1) else (tok1 ch T k).1 :: tkz ch T (tok1 ch T k).2) else [] := by
  unfold tkz
  rw [toks_e]
  by_cases hk : k < T
  · rw [if_pos hk, if_pos hk]
    have h3 := tok1_lt (ch := ch) hk
    rw [toks_fuel 600 601 (k + 1) (by omega) (by omega), toks_fuel 600 601 (tok1 ch T k).2 (by omega) (by omega)]
  · rw [if_neg hk, if_neg hk]
def tkc (ch : Nat → Nat) (so a m : Nat) : Nat × Nat × Nat := if so = 1 then (if 8 < m then 1 else wk (hsh ch a m) 12, a, 0) else if so = 2 then (if 4 < m then 1 else 2, a, dcm ch a m) else (if isMark (ch a) = true then ch a else 1, a, 0)
def tkOf (ch : Nat → Nat) (so a m : Nat) : List (Nat × Nat × Nat) := if so = 0 then [] else [tkc ch so a m]
theorem ksort_0 {c : Nat} : ksort c = 0 ↔ c = 10 ∨ c = 32 := by
  unfold ksort
  by_cases h : c = 10 ∨ c = 32
  · simp [h]
  · rw [if_neg h]
    refine ⟨fun q => ?_, fun q => absurd q h⟩
    split at q
    · omega
    · split at q <;> omega
theorem ksort_1 {c : Nat} : ksort c = 1 ↔ isLn c = true := by
  unfold ksort
  by_cases h : c = 10 ∨ c = 32
  · rw [if_pos h]
    refine ⟨fun q => by omega, fun q => ?_⟩
    have := isLn_t.mp q
    omega
  · rw [if_neg h]
    by_cases h2 : isLn c = true
    · simp [h2]
    · rw [if_neg h2]
      refine ⟨fun q => ?_, fun q => absurd q h2⟩
      split at q <;> omega
theorem ksort_2 {c : Nat} : ksort c = 2 ↔ isDn c = true := by
  unfold ksort
  by_cases h : c = 10 ∨ c = 32
  · rw [if_pos h]
    refine ⟨fun q => by omega, fun q => ?_⟩
    have := isDn_t.mp q
    omega
  · rw [if_neg h]
    by_cases h2 : isLn c = true
    · rw [if_pos h2]
      refine ⟨fun q => by omega, fun q => ?_⟩
      have := isDn_t.mp q
      have := isLn_t.mp h2
      omega
    · rw [if_neg h2]
      by_cases h3 : isDn c = true
      · simp [h3]
      · rw [if_neg h3]
        exact ⟨fun q => by omega, fun q => absurd q h3⟩
theorem ksort_le (c : Nat) : ksort c ≤ 3 := by
  unfold ksort
  split
  · omega
  · split
    · omega
    · split <;> omega
/-- what the cutting loop keeps: signs of one sort behind begin -/
def cutI (ch : Nat → Nat) (T i so a : Nat) : Prop := a ≤ i ∧ i ≤ T ∧ so ≤ 3 ∧ (∀ j, a ≤ j → j < i → ksort (ch j) = so) ∧ (so = 3 → i = a + 1) ∧ (so ≠ 0 → a < i)
theorem cut_blank {ch : Nat → Nat} {T : Nat} (hT : T ≤ 600) : ∀ (m a i : Nat), i - a ≤ m → a ≤ i → i ≤ T → (∀ j, a ≤ j → j < i → ksort (ch j) = 0) → tkz ch T a = tkz ch T i
  | 0, a, i, h, h1, _, _ => by rw [show a = i by omega]
  | m + 1, a, i, h, h1, h2, h3 => by
    by_cases e : a = i
    · rw [e]
    · rw [tkz_e hT a, if_pos (show a < T by omega), if_pos (ksort_0.mp (h3 a (Nat.le_refl _) (by omega)))]
      exact cut_blank hT m (a + 1) i (by omega) (by omega) h2 (fun j x y => h3 j (by omega) y)
theorem cut_run {ch : Nat → Nat} {T i so a : Nat} (hT : T ≤ 600) (h : cutI ch T i so a) (he : i = T ∨ ksort (ch i) ≠ so ∨ so = 3) : tkz ch T a = tkOf ch so a (i - a) ++ tkz ch T i := by
  obtain ⟨h1, h2, h3, h4, h5, h6⟩ := h
  unfold tkOf
  by_cases e0 : so = 0
  · subst e0
    rw [if_pos rfl, List.nil_append]
    exact cut_blank hT (i - a) a i (Nat.le_refl _) h1 h2 h4
  · rw [if_neg e0]
    have hlt := h6 e0
    have hs := h4 a (Nat.le_refl _) hlt
    rw [tkz_e hT a, if_pos (show a < T by omega), if_neg (fun q => e0 (by rw [← hs]; exact ksort_0.mpr q))]
    unfold tok1 tkc
    by_cases e1 : so = 1
    · subst e1
      have hl := ksort_1.mp hs
      have hr : rl isLn ch T 601 a = i := rl_eq 601 a i h1 h2 (by omega) (fun j x y => ksort_1.mp (h4 j x y)) (by
        rcases he with he | he | he
        · exact Or.inl he
        · exact Or.inr (by
            cases hc : isLn (ch i) with
            | false => rfl
            | true => exact absurd (ksort_1.mpr hc) he)
        · omega)
      rw [if_pos hl, if_pos (show (1 : Nat) = 1 from rfl), hr]
      rfl
    · by_cases e2 : so = 2
      · subst e2
        have hd := ksort_2.mp hs
        have hl : ¬ isLn (ch a) = true := fun q => by
          have := ksort_1.mpr q
          omega
        have hr : rl isDn ch T 601 a = i := rl_eq 601 a i h1 h2 (by omega) (fun j x y => ksort_2.mp (h4 j x y)) (by
          rcases he with he | he | he
          · exact Or.inl he
          · exact Or.inr (by
              cases hc : isDn (ch i) with
              | false => rfl
              | true => exact absurd (ksort_2.mpr hc) he)
          · omega)
        rw [if_neg hl, if_pos hd, if_neg (show ¬ (2 : Nat) = 1 by decide), if_pos (show (2 : Nat) = 2 from rfl), hr]
        rfl
      · have e3 : so = 3 := by omega
        have hl : ¬ isLn (ch a) = true := fun q => by
          have := ksort_1.mpr q
          omega
        have hd : ¬ isDn (ch a) = true := fun q => by
          have := ksort_2.mpr q
          omega
        rw [if_neg hl, if_neg hd, if_neg e1, if_neg e2, h5 e3]
        rfl
theorem cut_new {ch : Nat → Nat} {T i : Nat} (h : i < T) : cutI ch T (i + 1) (ksort (ch i)) i := ⟨by omega, by omega, ksort_le _, fun j x y => by rw [show j = i by omega], fun _ => rfl, fun _ => by omega⟩
theorem cut_on {ch : Nat → Nat} {T i so a : Nat} (h : cutI ch T i so a) (hi : i < T) (hs : ksort (ch i) = so) (h3 : so ≠ 3) : cutI ch T (i + 1) so a := by
  obtain ⟨h1, h2, h0, h4, h5, h6⟩ := h
  refine ⟨by omega, by omega, h0, fun j x y => ?_, fun q => absurd q h3, fun q => by omega⟩
  by_cases e : j = i
  · rw [e]; exact hs
  · exact h4 j x (by omega)
theorem tkc_b {ch : Nat → Nat} {so a m : Nat} (hso : so ≤ 3) (h0 : so ≠ 0) (hm : 0 < m) (hs : ∀ j, a ≤ j → j < a + m → ksort (ch j) = so ∧ ch j ≤ 126) : (tkc ch so a m).1 ≤ 126 ∧ (tkc ch so a m).1 ≠ 0 ∧ (tkc ch so a m).2.1 = a ∧ ((tkc ch so a m).1 = 2 → so = 2 ∧ m ≤ 4 ∧ (tkc ch so a m).2.2 = dcm ch a m ∧ dcm ch a m ≤ 9999) := by
  unfold tkc
  have ha := hs a (Nat.le_refl _) (by omega)
  by_cases e1 : so = 1
  · rw [if_pos e1]
    by_cases e8 : 8 < m
    · rw [if_pos e8]
      exact ⟨by dsimp only; omega, by dsimp only; omega, rfl, fun q => by dsimp only at q; omega⟩
    · rw [if_neg e8]
      dsimp only
      rcases wk_spec (hsh ch a m) 12 with ⟨w, hw, h1, -⟩ | ⟨h1, -⟩ <;> rw [h1] <;> exact ⟨by omega, by omega, rfl, fun q => by omega⟩
  · rw [if_neg e1]
    by_cases e2 : so = 2
    · rw [if_pos e2]
      by_cases e4 : 4 < m
      · rw [if_pos e4]
        exact ⟨by dsimp only; omega, by dsimp only; omega, rfl, fun q => by dsimp only at q; omega⟩
      · rw [if_neg e4]
        have hb := dcm_b ch a m (fun i x y => ksort_2.mp ((hs i x y).1.trans e2))
        have hp : 10 ^ m ≤ 10 ^ 4 := Nat.pow_le_pow_right (by omega) (by omega)
        exact ⟨by dsimp only; omega, by dsimp only; omega, rfl, fun _ => ⟨e2, by omega, rfl, by omega⟩⟩
    · rw [if_neg e2]
      dsimp only
      by_cases e3 : isMark (ch a) = true
      · rw [if_pos e3]
        have := isMark_or e3
        exact ⟨ha.2, by omega, rfl, fun q => by omega⟩
      · rw [if_neg e3]
        exact ⟨by omega, by omega, rfl, fun q => by omega⟩
/-! the tokens of the class: cells -/
def kTo (n : Nat) (K : Nat → Nat × Nat) (R : Nat → Nat → Option Nat) (t k l v : Nat) : Prop := (t < n ∧ k < n ∧ l < n ∧ v < n) ∧ (K t = (11, 0) ∧ K k = (0, 601) ∧ K l = (0, 601) ∧ K v = (0, 601)) ∧ (R t 0 = some k ∧ R t 1 = some l ∧ R t 2 = some v) ∧ (k ≠ l ∧ k ≠ v ∧ l ≠ v)
def kAcc (J : Nat → Nat → Int32) (t k l v : Nat) (acc : List (Nat × Nat × Nat)) : Prop := J t 3 = nI acc.length ∧ ∀ (i : Nat) (x : Nat × Nat × Nat), acc[i]? = some x → J k i = nI x.1 ∧ J l i = nI x.2.1 ∧ x.2.1 ≤ 600 ∧ x.1 ≤ 126 ∧ (x.1 = 2 → J v i = nI x.2.2 ∧ x.2.2 ≤ 9999)
def kTF (t k l v : Nat) (I J : Nat → Nat → Int32) : Prop := (∀ a, a ≠ t → a ≠ k → a ≠ l → a ≠ v → J a = I a) ∧ ∀ j, j ≠ 3 → J t j = I t j
theorem kTF.rf (t k l v : Nat) (I : Nat → Nat → Int32) : kTF t k l v I I := ⟨fun _ _ _ _ _ => rfl, fun _ _ => rfl⟩
theorem kTF.tr {t k l v : Nat} {I J M : Nat → Nat → Int32} (h : kTF t k l v I J) (h2 : kTF t k l v J M) : kTF t k l v I M := ⟨fun a x y z w => (h2.1 a x y z w).trans (h.1 a x y z w), fun j x => (h2.2 j x).trans (h.2 j x)⟩
theorem kAcc_add {I J : Nat → Nat → Int32} {t k l v : Nat} {acc : List (Nat × Nat × Nat)} {x : Nat × Nat × Nat} (h : kAcc I t k l v acc) (ht : J t 3 = nI (acc.length + 1)) (hk : ∀ i, J k i = if i = acc.length then nI x.1 else I k i) (hl : ∀ i, J l i = if i = acc.length then nI x.2.1 else I l i) (hv : ∀ i, i ≠ acc.length → J v i = I v i) (h1 : x.2.1 ≤ 600) (h2 : x.1 ≤ 126) (h3 : x.1 = 2 → J v acc.length = nI x.2.2 ∧ x.2.2 ≤ 9999) : kAcc J t k l v (acc ++ [x]) := by
  refine ⟨by rw [ht, List.length_append]; rfl, fun i y hy => ?_⟩
  by_cases e : i < acc.length
  · rw [List.getElem?_append_left e] at hy
    obtain ⟨a1, a2, a3, a4, a5⟩ := h.2 i y hy
    rw [hk, hl, hv i (by omega), if_neg (by omega), if_neg (by omega)]
    exact ⟨a1, a2, a3, a4, a5⟩
  · rw [List.getElem?_append_right (by omega)] at hy
    have hz : i - acc.length < 1 := (List.getElem?_eq_some_iff.mp hy).1
    have hi : i = acc.length := by omega
    rw [hi, Nat.sub_self] at hy
    cases hy
    rw [hi, hk, hl, if_pos rfl, if_pos rfl]
    exact ⟨rfl, rfl, h1, h2, h3⟩
theorem zsub {a m : Nat} : nI (a + m) - nI a = nI m := by rw [← nI_add, Int32.add_comm, Int32.add_sub_cancel]
abbrev x6_addToken : ZX := (RX6, cX6_addToken, 5, none, "addToken", 7, 280, false)
set_option maxHeartbeats 4000000 in
theorem c6_addToken1 (n : Nat) (K : Nat → Nat × Nat) (I : Nat → Nat → Int32) (L : Nat → Nat → Int64) (R : Nat → Nat → Option Nat) (t k l v p s : Nat) (ch : Nat → Nat) (acc : List (Nat × Nat × Nat)) (a m : Nat) (hT : kTo n K R t k l v) (hP : kTp n K R p s) (hA : kAcc I t k l v acc) (hlen : acc.length < 600) (ham : a + m ≤ 600) (hm : 0 < m) (hch : ∀ j, a ≤ j → j < a + m → I s j = nI (ch j) ∧ ch j ≤ 126 ∧ ksort (ch j) = 1) : Zm yX6_addToken cX6_addToken 5 none 7 280 0 0 [.ref t, .ref p, .int (nI 1), .int (nI a), .int (nI (a + m))] (n, K, I, L, R) (fun r h => r = none ∧ ∃ J, h = (n, K, J, L, R) ∧ kAcc J t k l v (acc ++ [tkc ch 1 a m]) ∧ kTF t k l v I J) := by
  refine Zm_of (lg := false) (by decide) (fun _ => by simp [Value.category]) (fun _ => Nat.le_of_ble_eq_true rfl) ?_
  show Zf x6_addToken 0 0 0 (zargs [.ref t, .ref p, .int (nI 1), .int (nI a), .int (nI (a + m))]) [] (n, K, I, L, R) _
  obtain ⟨⟨hta, hka, hla, hva⟩, ⟨htk, hkk, hlk, hvk⟩, ⟨ht0, ht1, ht2⟩, ⟨nkl, nkv, nlv⟩⟩ := id hT
  obtain ⟨hpa, hsa, hpk, hks, hp0⟩ := id hP
  have ntk := kne htk hkk (by decide)
  have ntl := kne htk hlk (by decide)
  have ntv := kne htk hvk (by decide)
  have nst := kne hks htk (by decide)
  have nsk := kne hks hkk (by decide)
  have nsl := kne hks hlk (by decide)
  have nsv := kne hks hvk (by decide)
  have hN : I t 3 = nI acc.length := hA.1
  have h1N : zu I l acc.length (nI a) t 3 = nI acc.length := by rw [zu_ne _ _ _ ntl]; exact hN
  have h2N : zu (zu I l acc.length (nI a)) v acc.length 0 t 3 = nI acc.length := by rw [zu_ne _ _ _ ntv]; exact h1N
  have h3N : ∀ x, zu (zu (zu I l acc.length (nI a)) v acc.length 0) k acc.length x t 3 = nI acc.length := fun x => by rw [zu_ne _ _ _ ntk]; exact h2N
  have hb := tkc_b (ch := ch) (so := 1) (a := a) (m := m) (by decide) (by decide) hm (fun j x y => ⟨(hch j x y).2.2, (hch j x y).2.1⟩)
  have hs2 : ∀ j, a ≤ j → j < a + m → zu (zu I l acc.length (nI a)) v acc.length 0 s j = nI (ch j) := fun j x y => by rw [zu_ne _ _ _ nsv, zu_ne _ _ _ nsl]; exact (hch j x y).1
  refine z_iload_n (i := 2) dX6_addToken_0 rfl rfl ?_
  refine z_if_eq 14 dX6_addToken_1 (by decide) (fun c_1 => absurd c_1 (by decide)) (fun _ => ?_)
  refine z_aload_n (i := 0) dX6_addToken_4 rfl rfl ?_
  refine z_gI zf6_21.g dX6_addToken_5 hta htk ?_
  rw [hN]
  refine z_sipush (v := 600) dX6_addToken_8 (by decide) ?_
  refine z_icmp_lt 15 dX6_addToken_11 (by decide) (fun _ => ?_) (fun c_2 => absurd ((zlt (a := acc.length) (b := 600) (by omega) (by omega)).mpr hlen) c_2)
  refine z_aload_n (i := 0) dX6_addToken_15 rfl rfl ?_
  refine z_gR zf6_15.g dX6_addToken_16 hta htk ht1 ?_
  refine z_aload_n (i := 0) dX6_addToken_19 rfl rfl ?_
  refine z_gI zf6_21.g dX6_addToken_20 hta htk ?_
  rw [hN]
  refine z_iload_n (i := 3) dX6_addToken_23 rfl rfl ?_
  refine z_iast dX6_addToken_24 hla hlk (zvin (by omega) (by omega)) ?_
  rw [zcl (by omega)]
  refine z_aload_n (i := 0) dX6_addToken_25 rfl rfl ?_
  refine z_gR zf6_18.g dX6_addToken_26 hta htk ht2 ?_
  refine z_aload_n (i := 0) dX6_addToken_29 rfl rfl ?_
  refine z_gI zf6_21.g dX6_addToken_30 hta htk ?_
  rw [h1N]
  refine z_iconst (v := 0) dX6_addToken_33 (by decide) ?_
  refine z_iast dX6_addToken_34 hva hvk (zvin (by omega) (by omega)) ?_
  rw [zcl (by omega)]
  refine z_iload_n (i := 2) dX6_addToken_35 rfl rfl ?_
  refine z_iconst (v := 1) dX6_addToken_36 (by decide) ?_
  refine z_icmp_ne 75 dX6_addToken_37 (by decide) (fun c_3 => absurd c_3 (fun q => q rfl)) (fun _ => ?_)
  refine z_aload_n (i := 0) dX6_addToken_40 rfl rfl ?_
  refine z_gR zf6_11.g dX6_addToken_41 hta htk ht0 ?_
  refine z_aload_n (i := 0) dX6_addToken_44 rfl rfl ?_
  refine z_gI zf6_21.g dX6_addToken_45 hta htk ?_
  rw [h2N]
  refine z_iload dX6_addToken_48 rfl ?_
  refine z_iload_n (i := 3) dX6_addToken_50 rfl rfl ?_
  refine z_isub dX6_addToken_51 ?_
  refine z_top (y := .int (nI m)) (by rw [zsub]) ?_
  refine z_bipush (v := 8) dX6_addToken_52 (by decide) ?_
  refine z_icmp_le 61 dX6_addToken_54 (by decide) (fun c_4 => ?_) (fun c_4 => ?_)
  · skip
    refine z_aload_n (i := 1) dX6_addToken_61 rfl rfl ?_
    refine z_gR zf6_26 dX6_addToken_62 hpa hpk hp0 ?_
    refine z_iload_n (i := 3) dX6_addToken_65 rfl rfl ?_
    refine z_iload dX6_addToken_66 rfl ?_
    refine z_callS (st := [_, _]) (mc2 := 0) (ms2 := 0) zi6_38 zs_yX6_wordKind (c6_wordKind n K _ L R s a m ch hsa hks ham (fun q hq => ⟨hs2 (a + q) (by omega) (by omega), ksort_1.mp (hch (a + q) (by omega) (by omega)).2.2⟩)) dX6_addToken_68 rfl rfl (by decide) (by decide) (Nat.le_of_ble_eq_true rfl) (by decide) (by decide) (fun r h2 hq => ?_)
    obtain ⟨rfl, rfl⟩ := hq
    refine z_iast dX6_addToken_71 hka hkk (zvin (by omega) (by omega)) ?_
    refine z_goto 154 dX6_addToken_72 (by decide) ?_
    refine z_aload_n (i := 0) dX6_addToken_154 rfl rfl ?_
    refine z_dup dX6_addToken_155 rfl ?_
    refine z_gI zf6_21.g dX6_addToken_156 hta htk ?_
    rw [zcl (by omega), h3N]
    refine z_iconst (v := 1) dX6_addToken_159 (by decide) ?_
    refine z_iadd dX6_addToken_160 ?_
    refine z_top (y := .int (nI (acc.length + 1))) (by rw [zl1, nI_add]) ?_
    refine z_putI zf6_21 dX6_addToken_161 (fun h => by cases h) hta htk ?_
    refine z_vret dX6_addToken_164 rfl ?_
    have e8 : ¬ 8 < m := fun q => by have := (zle (a := m) (b := 8) (by omega) (by omega)).mp c_4; omega
    refine ⟨rfl, _, rfl, kAcc_add hA ?_ (fun i => ?_) (fun i => ?_) (fun i hi => ?_) (by rw [hb.2.2.1]; omega) hb.1 (fun q => ?_), ⟨fun b x y z w => ?_, fun j hj => ?_⟩⟩
    · rw [zu_apply, if_pos ⟨rfl, rfl⟩]
    · rw [show (tkc ch 1 a m).1 = wk (hsh ch a m) 12 by unfold tkc; rw [if_pos rfl, if_neg e8]]
      simp [zu_apply, nkl, nkv, nlv, ntk, ntl, ntv, nkl.symm, nkv.symm, nlv.symm, ntk.symm, ntl.symm, ntv.symm]
    · rw [hb.2.2.1]
      simp [zu_apply, nkl, nkv, nlv, ntk, ntl, ntv, nkl.symm, nkv.symm, nlv.symm, ntk.symm, ntl.symm, ntv.symm]
    · simp [zu_apply, nkl, nkv, nlv, ntk, ntl, ntv, nkl.symm, nkv.symm, nlv.symm, ntk.symm, ntl.symm, ntv.symm, hi]
    · exact absurd (hb.2.2.2 q).1 (by decide)
    · rw [zu_ne _ _ _ x]
      simp [zu_ne, x, y, z, w]
    · simp [zu_apply, hj, ntk, ntl, ntv]
  · skip
    refine z_iconst (v := 1) dX6_addToken_57 (by decide) ?_
    refine z_goto 71 dX6_addToken_58 (by decide) ?_
    refine z_iast dX6_addToken_71 hka hkk (zvin (by omega) (by omega)) ?_
    refine z_goto 154 dX6_addToken_72 (by decide) ?_
    refine z_aload_n (i := 0) dX6_addToken_154 rfl rfl ?_
    refine z_dup dX6_addToken_155 rfl ?_
    refine z_gI zf6_21.g dX6_addToken_156 hta htk ?_
    rw [zcl (by omega), h3N]
    refine z_iconst (v := 1) dX6_addToken_159 (by decide) ?_
    refine z_iadd dX6_addToken_160 ?_
    refine z_top (y := .int (nI (acc.length + 1))) (by rw [zl1, nI_add]) ?_
    refine z_putI zf6_21 dX6_addToken_161 (fun h => by cases h) hta htk ?_
    refine z_vret dX6_addToken_164 rfl ?_
    have e8 : 8 < m := Nat.lt_of_not_le (fun q => c_4 ((zle (a := m) (b := 8) (by omega) (by omega)).mpr q))
    refine ⟨rfl, _, rfl, kAcc_add hA ?_ (fun i => ?_) (fun i => ?_) (fun i hi => ?_) (by rw [hb.2.2.1]; omega) hb.1 (fun q => ?_), ⟨fun b x y z w => ?_, fun j hj => ?_⟩⟩
    · rw [zu_apply, if_pos ⟨rfl, rfl⟩]
    · rw [show (tkc ch 1 a m).1 = 1 by unfold tkc; rw [if_pos rfl, if_pos e8]]
      simp [zu_apply, nkl, nkv, nlv, ntk, ntl, ntv, nkl.symm, nkv.symm, nlv.symm, ntk.symm, ntl.symm, ntv.symm]
      try rfl
    · rw [hb.2.2.1]
      simp [zu_apply, nkl, nkv, nlv, ntk, ntl, ntv, nkl.symm, nkv.symm, nlv.symm, ntk.symm, ntl.symm, ntv.symm]
    · simp [zu_apply, nkl, nkv, nlv, ntk, ntl, ntv, nkl.symm, nkv.symm, nlv.symm, ntk.symm, ntl.symm, ntv.symm, hi]
    · exact absurd (hb.2.2.2 q).1 (by decide)
    · rw [zu_ne _ _ _ x]
      simp [zu_ne, x, y, z, w]
    · simp [zu_apply, hj, ntk, ntl, ntv]
set_option maxHeartbeats 4000000 in
theorem c6_addToken2 (n : Nat) (K : Nat → Nat × Nat) (I : Nat → Nat → Int32) (L : Nat → Nat → Int64) (R : Nat → Nat → Option Nat) (t k l v p s : Nat) (ch : Nat → Nat) (acc : List (Nat × Nat × Nat)) (a m : Nat) (hT : kTo n K R t k l v) (hP : kTp n K R p s) (hA : kAcc I t k l v acc) (hlen : acc.length < 600) (ham : a + m ≤ 600) (hm : 0 < m) (hch : ∀ j, a ≤ j → j < a + m → I s j = nI (ch j) ∧ ch j ≤ 126 ∧ ksort (ch j) = 2) : Zm yX6_addToken cX6_addToken 5 none 7 280 0 0 [.ref t, .ref p, .int (nI 2), .int (nI a), .int (nI (a + m))] (n, K, I, L, R) (fun r h => r = none ∧ ∃ J, h = (n, K, J, L, R) ∧ kAcc J t k l v (acc ++ [tkc ch 2 a m]) ∧ kTF t k l v I J) := by
  refine Zm_of (lg := false) (by decide) (fun _ => by simp [Value.category]) (fun _ => Nat.le_of_ble_eq_true rfl) ?_
  show Zf x6_addToken 0 0 0 (zargs [.ref t, .ref p, .int (nI 2), .int (nI a), .int (nI (a + m))]) [] (n, K, I, L, R) _
  obtain ⟨⟨hta, hka, hla, hva⟩, ⟨htk, hkk, hlk, hvk⟩, ⟨ht0, ht1, ht2⟩, ⟨nkl, nkv, nlv⟩⟩ := id hT
  obtain ⟨hpa, hsa, hpk, hks, hp0⟩ := id hP
  have ntk := kne htk hkk (by decide)
  have ntl := kne htk hlk (by decide)
  have ntv := kne htk hvk (by decide)
  have nst := kne hks htk (by decide)
  have nsk := kne hks hkk (by decide)
  have nsl := kne hks hlk (by decide)
  have nsv := kne hks hvk (by decide)
  have hN : I t 3 = nI acc.length := hA.1
  have h1N : zu I l acc.length (nI a) t 3 = nI acc.length := by rw [zu_ne _ _ _ ntl]; exact hN
  have h2N : zu (zu I l acc.length (nI a)) v acc.length 0 t 3 = nI acc.length := by rw [zu_ne _ _ _ ntv]; exact h1N
  have h3N : ∀ x, zu (zu (zu I l acc.length (nI a)) v acc.length 0) k acc.length x t 3 = nI acc.length := fun x => by rw [zu_ne _ _ _ ntk]; exact h2N
  have hb := tkc_b (ch := ch) (so := 2) (a := a) (m := m) (by decide) (by decide) hm (fun j x y => ⟨(hch j x y).2.2, (hch j x y).2.1⟩)
  have hs2 : ∀ j, a ≤ j → j < a + m → zu (zu I l acc.length (nI a)) v acc.length 0 s j = nI (ch j) := fun j x y => by rw [zu_ne _ _ _ nsv, zu_ne _ _ _ nsl]; exact (hch j x y).1
  refine z_iload_n (i := 2) dX6_addToken_0 rfl rfl ?_
  refine z_if_eq 14 dX6_addToken_1 (by decide) (fun c_1 => absurd c_1 (by decide)) (fun _ => ?_)
  refine z_aload_n (i := 0) dX6_addToken_4 rfl rfl ?_
  refine z_gI zf6_21.g dX6_addToken_5 hta htk ?_
  rw [hN]
  refine z_sipush (v := 600) dX6_addToken_8 (by decide) ?_
  refine z_icmp_lt 15 dX6_addToken_11 (by decide) (fun _ => ?_) (fun c_2 => absurd ((zlt (a := acc.length) (b := 600) (by omega) (by omega)).mpr hlen) c_2)
  refine z_aload_n (i := 0) dX6_addToken_15 rfl rfl ?_
  refine z_gR zf6_15.g dX6_addToken_16 hta htk ht1 ?_
  refine z_aload_n (i := 0) dX6_addToken_19 rfl rfl ?_
  refine z_gI zf6_21.g dX6_addToken_20 hta htk ?_
  rw [hN]
  refine z_iload_n (i := 3) dX6_addToken_23 rfl rfl ?_
  refine z_iast dX6_addToken_24 hla hlk (zvin (by omega) (by omega)) ?_
  rw [zcl (by omega)]
  refine z_aload_n (i := 0) dX6_addToken_25 rfl rfl ?_
  refine z_gR zf6_18.g dX6_addToken_26 hta htk ht2 ?_
  refine z_aload_n (i := 0) dX6_addToken_29 rfl rfl ?_
  refine z_gI zf6_21.g dX6_addToken_30 hta htk ?_
  rw [h1N]
  refine z_iconst (v := 0) dX6_addToken_33 (by decide) ?_
  refine z_iast dX6_addToken_34 hva hvk (zvin (by omega) (by omega)) ?_
  rw [zcl (by omega)]
  refine z_iload_n (i := 2) dX6_addToken_35 rfl rfl ?_
  refine z_iconst (v := 1) dX6_addToken_36 (by decide) ?_
  refine z_icmp_ne 75 dX6_addToken_37 (by decide) (fun _ => ?_) (fun c_3 => absurd c_3 (by decide))
  refine z_iload_n (i := 2) dX6_addToken_75 rfl rfl ?_
  refine z_iconst (v := 2) dX6_addToken_76 (by decide) ?_
  refine z_icmp_ne 136 dX6_addToken_77 (by decide) (fun c_4 => absurd c_4 (fun q => q rfl)) (fun _ => ?_)
  refine z_aload_n (i := 0) dX6_addToken_80 rfl rfl ?_
  refine z_gR zf6_11.g dX6_addToken_81 hta htk ht0 ?_
  refine z_aload_n (i := 0) dX6_addToken_84 rfl rfl ?_
  refine z_gI zf6_21.g dX6_addToken_85 hta htk ?_
  rw [h2N]
  refine z_iload dX6_addToken_88 rfl ?_
  refine z_iload_n (i := 3) dX6_addToken_90 rfl rfl ?_
  refine z_isub dX6_addToken_91 ?_
  refine z_top (y := .int (nI m)) (by rw [zsub]) ?_
  refine z_iconst (v := 4) dX6_addToken_92 (by decide) ?_
  refine z_icmp_le 100 dX6_addToken_93 (by decide) (fun c_5 => ?_) (fun c_5 => ?_)
  · skip
    refine z_iconst (v := 2) dX6_addToken_100 (by decide) ?_
    refine z_iast dX6_addToken_101 hka hkk (zvin (by omega) (by omega)) ?_
    rw [zcl (by omega)]
    refine z_aload_n (i := 0) dX6_addToken_102 rfl rfl ?_
    refine z_gR zf6_18.g dX6_addToken_103 hta htk ht2 ?_
    refine z_aload_n (i := 0) dX6_addToken_106 rfl rfl ?_
    refine z_gI zf6_21.g dX6_addToken_107 hta htk ?_
    rw [h3N]
    refine z_iload dX6_addToken_110 rfl ?_
    refine z_iload_n (i := 3) dX6_addToken_112 rfl rfl ?_
    refine z_isub dX6_addToken_113 ?_
    refine z_top (y := .int (nI m)) (by rw [zsub]) ?_
    refine z_iconst (v := 4) dX6_addToken_114 (by decide) ?_
    refine z_icmp_le 122 dX6_addToken_115 (by decide) (fun _ => ?_) (fun c_6 => absurd c_5 c_6)
    refine z_aload_n (i := 1) dX6_addToken_122 rfl rfl ?_
    refine z_gR zf6_26 dX6_addToken_123 hpa hpk hp0 ?_
    refine z_iload_n (i := 3) dX6_addToken_126 rfl rfl ?_
    refine z_iload dX6_addToken_127 rfl ?_
    refine z_callS (st := [_, _]) (mc2 := 0) (ms2 := 0) zi6_42 zs_yX6_numberValue (c6_numberValue n K _ L R s a (a + m) ch hsa hks (by omega) ham (fun i x y => ⟨by rw [zu_ne _ _ _ nsk]; exact hs2 i x y, ksort_2.mp (hch i x y).2.2⟩)) dX6_addToken_129 rfl rfl (by decide) (by decide) (Nat.le_of_ble_eq_true rfl) (by decide) (by decide) (fun r h2 hq => ?_)
    obtain ⟨rfl, rfl⟩ := hq
    rw [Nat.add_sub_cancel_left]
    refine z_iast dX6_addToken_132 hva hvk (zvin (by omega) (by omega)) ?_
    refine z_goto 154 dX6_addToken_133 (by decide) ?_
    refine z_aload_n (i := 0) dX6_addToken_154 rfl rfl ?_
    refine z_dup dX6_addToken_155 rfl ?_
    refine z_gI zf6_21.g dX6_addToken_156 hta htk ?_
    rw [zcl (by omega), zu_ne _ _ _ ntv, h3N]
    refine z_iconst (v := 1) dX6_addToken_159 (by decide) ?_
    refine z_iadd dX6_addToken_160 ?_
    refine z_top (y := .int (nI (acc.length + 1))) (by rw [zl1, nI_add]) ?_
    refine z_putI zf6_21 dX6_addToken_161 (fun h => by cases h) hta htk ?_
    refine z_vret dX6_addToken_164 rfl ?_
    have e4 : ¬ 4 < m := fun q => by have := (zle (a := m) (b := 4) (by omega) (by omega)).mp c_5; omega
    refine ⟨rfl, _, rfl, kAcc_add hA ?_ (fun i => ?_) (fun i => ?_) (fun i hi => ?_) (by rw [hb.2.2.1]; omega) hb.1 (fun q => ?_), ⟨fun b x y z w => ?_, fun j hj => ?_⟩⟩
    · rw [zu_apply, if_pos ⟨rfl, rfl⟩]
    · rw [show (tkc ch 2 a m).1 = 2 by unfold tkc; rw [if_neg (show ¬ (2 : Nat) = 1 by decide), if_pos rfl, if_neg e4]]
      simp [zu_apply, nkl, nkv, nlv, ntk, ntl, ntv, nkl.symm, nkv.symm, nlv.symm, ntk.symm, ntl.symm, ntv.symm]
      try rfl
    · rw [hb.2.2.1]
      simp [zu_apply, nkl, nkv, nlv, ntk, ntl, ntv, nkl.symm, nkv.symm, nlv.symm, ntk.symm, ntl.symm, ntv.symm]
    · simp [zu_apply, nkl, nkv, nlv, ntk, ntl, ntv, nkl.symm, nkv.symm, nlv.symm, ntk.symm, ntl.symm, ntv.symm, hi]
    · rw [(hb.2.2.2 q).2.2.1]
      refine ⟨?_, (hb.2.2.2 q).2.2.2⟩
      simp [zu_apply, nkl, nkv, nlv, ntk, ntl, ntv, nkl.symm, nkv.symm, nlv.symm, ntk.symm, ntl.symm, ntv.symm]
    · rw [zu_ne _ _ _ x]
      simp [zu_ne, x, y, z, w]
    · simp [zu_apply, hj, ntk, ntl, ntv]
  · skip
    refine z_iconst (v := 1) dX6_addToken_96 (by decide) ?_
    refine z_goto 101 dX6_addToken_97 (by decide) ?_
    refine z_iast dX6_addToken_101 hka hkk (zvin (by omega) (by omega)) ?_
    rw [zcl (by omega)]
    refine z_aload_n (i := 0) dX6_addToken_102 rfl rfl ?_
    refine z_gR zf6_18.g dX6_addToken_103 hta htk ht2 ?_
    refine z_aload_n (i := 0) dX6_addToken_106 rfl rfl ?_
    refine z_gI zf6_21.g dX6_addToken_107 hta htk ?_
    rw [h3N]
    refine z_iload dX6_addToken_110 rfl ?_
    refine z_iload_n (i := 3) dX6_addToken_112 rfl rfl ?_
    refine z_isub dX6_addToken_113 ?_
    refine z_top (y := .int (nI m)) (by rw [zsub]) ?_
    refine z_iconst (v := 4) dX6_addToken_114 (by decide) ?_
    refine z_icmp_le 122 dX6_addToken_115 (by decide) (fun c_7 => absurd c_7 c_5) (fun _ => ?_)
    refine z_iconst (v := 0) dX6_addToken_118 (by decide) ?_
    refine z_goto 132 dX6_addToken_119 (by decide) ?_
    refine z_iast dX6_addToken_132 hva hvk (zvin (by omega) (by omega)) ?_
    refine z_goto 154 dX6_addToken_133 (by decide) ?_
    refine z_aload_n (i := 0) dX6_addToken_154 rfl rfl ?_
    refine z_dup dX6_addToken_155 rfl ?_
    refine z_gI zf6_21.g dX6_addToken_156 hta htk ?_
    rw [zcl (by omega), zu_ne _ _ _ ntv, h3N]
    refine z_iconst (v := 1) dX6_addToken_159 (by decide) ?_
    refine z_iadd dX6_addToken_160 ?_
    refine z_top (y := .int (nI (acc.length + 1))) (by rw [zl1, nI_add]) ?_
    refine z_putI zf6_21 dX6_addToken_161 (fun h => by cases h) hta htk ?_
    refine z_vret dX6_addToken_164 rfl ?_
    have e4 : 4 < m := Nat.lt_of_not_le (fun q => c_5 ((zle (a := m) (b := 4) (by omega) (by omega)).mpr q))
    refine ⟨rfl, _, rfl, kAcc_add hA ?_ (fun i => ?_) (fun i => ?_) (fun i hi => ?_) (by rw [hb.2.2.1]; omega) hb.1 (fun q => ?_), ⟨fun b x y z w => ?_, fun j hj => ?_⟩⟩
    · rw [zu_apply, if_pos ⟨rfl, rfl⟩]
    · rw [show (tkc ch 2 a m).1 = 1 by unfold tkc; rw [if_neg (show ¬ (2 : Nat) = 1 by decide), if_pos rfl, if_pos e4]]
      simp [zu_apply, nkl, nkv, nlv, ntk, ntl, ntv, nkl.symm, nkv.symm, nlv.symm, ntk.symm, ntl.symm, ntv.symm]
      try rfl
    · rw [hb.2.2.1]
      simp [zu_apply, nkl, nkv, nlv, ntk, ntl, ntv, nkl.symm, nkv.symm, nlv.symm, ntk.symm, ntl.symm, ntv.symm]
    · simp [zu_apply, nkl, nkv, nlv, ntk, ntl, ntv, nkl.symm, nkv.symm, nlv.symm, ntk.symm, ntl.symm, ntv.symm, hi]
    · exact absurd (hb.2.2.2 q).2.1 (by omega)
    · rw [zu_ne _ _ _ x]
      simp [zu_ne, x, y, z, w]
    · simp [zu_apply, hj, ntk, ntl, ntv]
set_option maxHeartbeats 4000000 in
theorem c6_addToken3 (n : Nat) (K : Nat → Nat × Nat) (I : Nat → Nat → Int32) (L : Nat → Nat → Int64) (R : Nat → Nat → Option Nat) (t k l v p s : Nat) (ch : Nat → Nat) (acc : List (Nat × Nat × Nat)) (a m : Nat) (hT : kTo n K R t k l v) (hP : kTp n K R p s) (hA : kAcc I t k l v acc) (hlen : acc.length < 600) (ham : a + m ≤ 600) (hm : 0 < m) (hch : ∀ j, a ≤ j → j < a + m → I s j = nI (ch j) ∧ ch j ≤ 126 ∧ ksort (ch j) = 3) : Zm yX6_addToken cX6_addToken 5 none 7 280 0 0 [.ref t, .ref p, .int (nI 3), .int (nI a), .int (nI (a + m))] (n, K, I, L, R) (fun r h => r = none ∧ ∃ J, h = (n, K, J, L, R) ∧ kAcc J t k l v (acc ++ [tkc ch 3 a m]) ∧ kTF t k l v I J) := by
  refine Zm_of (lg := false) (by decide) (fun _ => by simp [Value.category]) (fun _ => Nat.le_of_ble_eq_true rfl) ?_
  show Zf x6_addToken 0 0 0 (zargs [.ref t, .ref p, .int (nI 3), .int (nI a), .int (nI (a + m))]) [] (n, K, I, L, R) _
  obtain ⟨⟨hta, hka, hla, hva⟩, ⟨htk, hkk, hlk, hvk⟩, ⟨ht0, ht1, ht2⟩, ⟨nkl, nkv, nlv⟩⟩ := id hT
  obtain ⟨hpa, hsa, hpk, hks, hp0⟩ := id hP
  have ntk := kne htk hkk (by decide)
  have ntl := kne htk hlk (by decide)
  have ntv := kne htk hvk (by decide)
  have nst := kne hks htk (by decide)
  have nsk := kne hks hkk (by decide)
  have nsl := kne hks hlk (by decide)
  have nsv := kne hks hvk (by decide)
  have hN : I t 3 = nI acc.length := hA.1
  have h1N : zu I l acc.length (nI a) t 3 = nI acc.length := by rw [zu_ne _ _ _ ntl]; exact hN
  have h2N : zu (zu I l acc.length (nI a)) v acc.length 0 t 3 = nI acc.length := by rw [zu_ne _ _ _ ntv]; exact h1N
  have h3N : ∀ x, zu (zu (zu I l acc.length (nI a)) v acc.length 0) k acc.length x t 3 = nI acc.length := fun x => by rw [zu_ne _ _ _ ntk]; exact h2N
  have hb := tkc_b (ch := ch) (so := 3) (a := a) (m := m) (by decide) (by decide) hm (fun j x y => ⟨(hch j x y).2.2, (hch j x y).2.1⟩)
  have hs2 : ∀ j, a ≤ j → j < a + m → zu (zu I l acc.length (nI a)) v acc.length 0 s j = nI (ch j) := fun j x y => by rw [zu_ne _ _ _ nsv, zu_ne _ _ _ nsl]; exact (hch j x y).1
  refine z_iload_n (i := 2) dX6_addToken_0 rfl rfl ?_
  refine z_if_eq 14 dX6_addToken_1 (by decide) (fun c_1 => absurd c_1 (by decide)) (fun _ => ?_)
  refine z_aload_n (i := 0) dX6_addToken_4 rfl rfl ?_
  refine z_gI zf6_21.g dX6_addToken_5 hta htk ?_
  rw [hN]
  refine z_sipush (v := 600) dX6_addToken_8 (by decide) ?_
  refine z_icmp_lt 15 dX6_addToken_11 (by decide) (fun _ => ?_) (fun c_2 => absurd ((zlt (a := acc.length) (b := 600) (by omega) (by omega)).mpr hlen) c_2)
  refine z_aload_n (i := 0) dX6_addToken_15 rfl rfl ?_
  refine z_gR zf6_15.g dX6_addToken_16 hta htk ht1 ?_
  refine z_aload_n (i := 0) dX6_addToken_19 rfl rfl ?_
  refine z_gI zf6_21.g dX6_addToken_20 hta htk ?_
  rw [hN]
  refine z_iload_n (i := 3) dX6_addToken_23 rfl rfl ?_
  refine z_iast dX6_addToken_24 hla hlk (zvin (by omega) (by omega)) ?_
  rw [zcl (by omega)]
  refine z_aload_n (i := 0) dX6_addToken_25 rfl rfl ?_
  refine z_gR zf6_18.g dX6_addToken_26 hta htk ht2 ?_
  refine z_aload_n (i := 0) dX6_addToken_29 rfl rfl ?_
  refine z_gI zf6_21.g dX6_addToken_30 hta htk ?_
  rw [h1N]
  refine z_iconst (v := 0) dX6_addToken_33 (by decide) ?_
  refine z_iast dX6_addToken_34 hva hvk (zvin (by omega) (by omega)) ?_
  rw [zcl (by omega)]
  refine z_iload_n (i := 2) dX6_addToken_35 rfl rfl ?_
  refine z_iconst (v := 1) dX6_addToken_36 (by decide) ?_
  refine z_icmp_ne 75 dX6_addToken_37 (by decide) (fun _ => ?_) (fun c_3 => absurd c_3 (by decide))
  refine z_iload_n (i := 2) dX6_addToken_75 rfl rfl ?_
  refine z_iconst (v := 2) dX6_addToken_76 (by decide) ?_
  refine z_icmp_ne 136 dX6_addToken_77 (by decide) (fun _ => ?_) (fun c_4 => absurd c_4 (by decide))
  refine z_aload_n (i := 0) dX6_addToken_136 rfl rfl ?_
  refine z_gR zf6_11.g dX6_addToken_137 hta htk ht0 ?_
  refine z_aload_n (i := 0) dX6_addToken_140 rfl rfl ?_
  refine z_gI zf6_21.g dX6_addToken_141 hta htk ?_
  rw [h2N]
  refine z_aload_n (i := 1) dX6_addToken_144 rfl rfl ?_
  refine z_gR zf6_26 dX6_addToken_145 hpa hpk hp0 ?_
  refine z_iload_n (i := 3) dX6_addToken_148 rfl rfl ?_
  refine z_cald dX6_addToken_149 hsa hks (zvin (by omega) (by omega)) ?_
  rw [zcl (by omega), hs2 a (Nat.le_refl _) (by omega)]
  refine z_callS (st := [_, _]) (mc2 := 0) (ms2 := 0) zi6_45 zs_yX6_markKind (c6_markKind n K _ L R (ch a) (by have := (hch a (Nat.le_refl _) (by omega)).2.1; omega)) dX6_addToken_150 rfl rfl (by decide) (by decide) (Nat.le_of_ble_eq_true rfl) (by decide) (by decide) (fun r h2 hq => ?_)
  obtain ⟨rfl, rfl⟩ := hq
  refine z_iast dX6_addToken_153 hka hkk (zvin (by omega) (by omega)) ?_
  refine z_aload_n (i := 0) dX6_addToken_154 rfl rfl ?_
  refine z_dup dX6_addToken_155 rfl ?_
  refine z_gI zf6_21.g dX6_addToken_156 hta htk ?_
  rw [zcl (by omega), h3N]
  refine z_iconst (v := 1) dX6_addToken_159 (by decide) ?_
  refine z_iadd dX6_addToken_160 ?_
  refine z_top (y := .int (nI (acc.length + 1))) (by rw [zl1, nI_add]) ?_
  refine z_putI zf6_21 dX6_addToken_161 (fun h => by cases h) hta htk ?_
  refine z_vret dX6_addToken_164 rfl ?_
  refine ⟨rfl, _, rfl, kAcc_add hA ?_ (fun i => ?_) (fun i => ?_) (fun i hi => ?_) (by rw [hb.2.2.1]; omega) hb.1 (fun q => ?_), ⟨fun b x y z w => ?_, fun j hj => ?_⟩⟩
  · rw [zu_apply, if_pos ⟨rfl, rfl⟩]
  · rw [show (tkc ch 3 a m).1 = (if isMark (ch a) = true then ch a else 1) by unfold tkc; rw [if_neg (show ¬ (3 : Nat) = 1 by decide), if_neg (show ¬ (3 : Nat) = 2 by decide)]]
    simp [zu_apply, nkl, nkv, nlv, ntk, ntl, ntv, nkl.symm, nkv.symm, nlv.symm, ntk.symm, ntl.symm, ntv.symm]
  · rw [hb.2.2.1]
    simp [zu_apply, nkl, nkv, nlv, ntk, ntl, ntv, nkl.symm, nkv.symm, nlv.symm, ntk.symm, ntl.symm, ntv.symm]
  · simp [zu_apply, nkl, nkv, nlv, ntk, ntl, ntv, nkl.symm, nkv.symm, nlv.symm, ntk.symm, ntl.symm, ntv.symm, hi]
  · exact absurd (hb.2.2.2 q).1 (by decide)
  · rw [zu_ne _ _ _ x]
    simp [zu_ne, x, y, z, w]
  · simp [zu_apply, hj, ntk, ntl, ntv]
set_option maxHeartbeats 4000000 in
theorem c6_addToken0 (n : Nat) (K : Nat → Nat × Nat) (I : Nat → Nat → Int32) (L : Nat → Nat → Int64) (R : Nat → Nat → Option Nat) (t p : Nat) (a e : Int32) (Q : Option Value → ZH → Prop) (hQ : Q none (n, K, I, L, R)) : Zm yX6_addToken cX6_addToken 5 none 7 280 0 0 [.ref t, .ref p, .int (nI 0), .int a, .int e] ((n, K, I, L, R)) (Q) := by
  refine Zm_of (lg := false) (by decide) (fun _ => by simp [Value.category]) (fun _ => Nat.le_of_ble_eq_true rfl) ?_
  show Zf x6_addToken 0 0 0 (zargs [.ref t, .ref p, .int (nI 0), .int a, .int e]) [] ((n, K, I, L, R)) _
  refine z_iload_n (i := 2) dX6_addToken_0 rfl rfl ?_
  refine z_if_eq 14 dX6_addToken_1 (by decide) (fun _ => ?_) (fun c_1 => absurd c_1 (fun q => q rfl))
  refine z_vret dX6_addToken_14 rfl ?_
  exact hQ
theorem c6_addTokenG (n : Nat) (K : Nat → Nat × Nat) (I : Nat → Nat → Int32) (L : Nat → Nat → Int64) (R : Nat → Nat → Option Nat) (t k l v p s : Nat) (ch : Nat → Nat) (acc : List (Nat × Nat × Nat)) (a m so : Nat) (hT : kTo n K R t k l v) (hP : kTp n K R p s) (hA : kAcc I t k l v acc) (hlen : so ≠ 0 → acc.length < 600) (ham : a + m ≤ 600) (hm : so ≠ 0 → 0 < m) (hso : so ≤ 3) (hch : ∀ j, a ≤ j → j < a + m → I s j = nI (ch j) ∧ ch j ≤ 126 ∧ ksort (ch j) = so) : Zm yX6_addToken cX6_addToken 5 none 7 280 0 0 [.ref t, .ref p, .int (nI so), .int (nI a), .int (nI (a + m))] (n, K, I, L, R) (fun r h => r = none ∧ ∃ J, h = (n, K, J, L, R) ∧ kAcc J t k l v (acc ++ tkOf ch so a m) ∧ kTF t k l v I J) := by
  rcases (show so = 0 ∨ so = 1 ∨ so = 2 ∨ so = 3 by omega) with e | e | e | e
  · subst e
    exact c6_addToken0 n K I L R t p (nI a) (nI (a + m)) _ ⟨rfl, I, rfl, by unfold tkOf; rw [if_pos rfl, List.append_nil]; exact hA, kTF.rf t k l v I⟩
  · subst e; exact c6_addToken1 n K I L R t k l v p s ch acc a m hT hP hA (hlen (by decide)) ham (hm (by decide)) hch
  · subst e; exact c6_addToken2 n K I L R t k l v p s ch acc a m hT hP hA (hlen (by decide)) ham (hm (by decide)) hch
  · subst e; exact c6_addToken3 n K I L R t k l v p s ch acc a m hT hP hA (hlen (by decide)) ham (hm (by decide)) hch
