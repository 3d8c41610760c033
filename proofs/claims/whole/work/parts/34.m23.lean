/-! the tokens of a tape -/
def isLn (c : Nat) : Bool := decide (97 ≤ c) && decide (c ≤ 122)
def isDn (c : Nat) : Bool := decide (48 ≤ c) && decide (c ≤ 57)
def rl (p : Nat → Bool) (ch : Nat → Nat) (T : Nat) : Nat → Nat → Nat
  | 0, k => k
  | m + 1, k => if k < T ∧ p (ch k) = true then rl p ch T m (k + 1) else k
def hsh (ch : Nat → Nat) (a : Nat) : Nat → Nat
  | 0 => 0
  | m + 1 => 37 * hsh ch a m + (ch (a + m) - 96)
def dcm (ch : Nat → Nat) (a : Nat) : Nat → Nat
  | 0 => 0
  | m + 1 => 10 * dcm ch a m + (ch (a + m) - 48)
def mwN (w : Nat) : Nat := ([974156, 1825, 1176170, 1891, 31692, 1167067, 22745289, 665385, 1132078311, 5538, 426554, 1633] : List Nat).getD w 0
theorem mwords_N : ∀ w, w < 12 → mwords w = lN (mwN w) ∧ mwN w < 2000000000 := by decide +kernel
def wk (v : Nat) : Nat → Nat
  | 0 => 1
  | m + 1 => if mwN m = v then 3 + m else wk v m
theorem wk_spec (v : Nat) : ∀ m, (∃ w, w < m ∧ wk v m = 3 + w ∧ mwN w = v) ∨ (wk v m = 1 ∧ ∀ w, w < m → mwN w ≠ v)
  | 0 => Or.inr ⟨rfl, fun w h => by omega⟩
  | m + 1 => by
    simp only [wk]
    by_cases e : mwN m = v
    · rw [if_pos e]
      exact Or.inl ⟨m, by omega, rfl, e⟩
    · rw [if_neg e]
      rcases wk_spec v m with ⟨w, h1, h2, h3⟩ | ⟨h1, h2⟩
      · exact Or.inl ⟨w, by omega, h2, h3⟩
      · refine Or.inr ⟨h1, fun w hw => ?_⟩
        by_cases e2 : w = m
        · rw [e2]; exact e
        · exact h2 w (by omega)
theorem rl_spec (p : Nat → Bool) (ch : Nat → Nat) (T : Nat) : ∀ (m k : Nat), k ≤ T → k ≤ rl p ch T m k ∧ rl p ch T m k ≤ T ∧ (∀ i, k ≤ i → i < rl p ch T m k → p (ch i) = true)
  | 0, k, h => ⟨Nat.le_refl _, h, fun i h1 h2 => by simp only [rl] at h2; omega⟩
  | m + 1, k, h => by
    simp only [rl]
    by_cases e : k < T ∧ p (ch k) = true
    · rw [if_pos e]
      obtain ⟨h1, h2, h3⟩ := rl_spec p ch T m (k + 1) (by omega)
      refine ⟨by omega, h2, fun i hi hi2 => ?_⟩
      by_cases e2 : i = k
      · rw [e2]; exact e.2
      · exact h3 i (by omega) hi2
    · rw [if_neg e]
      exact ⟨Nat.le_refl _, h, fun i h1 h2 => by omega⟩
theorem rl_lt {p : Nat → Bool} {ch : Nat → Nat} {T m k : Nat} (h : k < T) (hp : p (ch k) = true) : k < rl p ch T (m + 1) k := by
  simp only [rl]
  rw [if_pos ⟨h, hp⟩]
  have := (rl_spec p ch T m (k + 1) (by omega)).1
  omega
theorem hsh_b (ch : Nat → Nat) (a : Nat) : ∀ m, (∀ i, a ≤ i → i < a + m → isLn (ch i) = true) → hsh ch a m < 37 ^ m
  | 0, _ => by simp [hsh]
  | m + 1, h => by
    have h1 := hsh_b ch a m (fun i h1 h2 => h i h1 (by omega))
    have h2 := h (a + m) (by omega) (by omega)
    simp [isLn] at h2
    simp only [hsh]
    rw [Nat.pow_succ]
    omega
theorem dcm_b (ch : Nat → Nat) (a : Nat) : ∀ m, (∀ i, a ≤ i → i < a + m → isDn (ch i) = true) → dcm ch a m < 10 ^ m
  | 0, _ => by simp [dcm]
  | m + 1, h => by
    have h1 := dcm_b ch a m (fun i h1 h2 => h i h1 (by omega))
    have h2 := h (a + m) (by omega) (by omega)
    simp [isDn] at h2
    simp only [dcm]
    rw [Nat.pow_succ]
    omega
def tok1 (ch : Nat → Nat) (T k : Nat) : (Nat × Nat × Nat) × Nat :=
  if isLn (ch k) = true then ((if 8 < rl isLn ch T 601 k - k then 1 else wk (hsh ch k (rl isLn ch T 601 k - k)) 12, k, 0), rl isLn ch T 601 k)
  else if isDn (ch k) = true then ((if 4 < rl isDn ch T 601 k - k then 1 else 2, k, dcm ch k (rl isDn ch T 601 k - k)), rl isDn ch T 601 k)
  else ((if isMark (ch k) = true then ch k else 1, k, 0), k + 1)
def toks (ch : Nat → Nat) (T : Nat) : Nat → Nat → List (Nat × Nat × Nat)
  | 0, _ => []
  | m + 1, k => if k < T then (if ch k = 10 ∨ ch k = 32 then toks ch T m (k + 1) else (tok1 ch T k).1 :: toks ch T m (tok1 ch T k).2) else []
theorem toks_e (ch : Nat → Nat) (T m k : Nat) : toks ch T (m + 1) k = if k < T then (if ch k = 10 ∨ ch k = 32 then toks ch T m (k + 1) else (tok1 ch T k).1 :: toks ch T m (tok1 ch T k).2) else [] := rfl
/-- a token of the reference that stands for t -/
def mtt (s : Int32) (v : Int64) (p : Int32) (t : Nat × Nat × Nat) : Prop := mtk s v t.1 t.2.2 ∧ p = nI t.2.1 ∧ t.2.1 ≤ 600 ∧ t.1 ≠ 0
theorem isL_e {c : Nat} (h : c ≤ 1000) : (if nI c < 97 then (0 : Int32) else if 122 < nI c then 0 else 1) = zb (isLn c) := by
  have e1 : nI c < 97 ↔ c < 97 := zlt (b := 97) (by omega) (by omega)
  have e2 : 122 < nI c ↔ 122 < c := zlt (a := 122) (by omega) (by omega)
  unfold isLn
  by_cases h1 : c < 97
  · rw [if_pos (e1.mpr h1), decide_eq_false (by omega)]; rfl
  · rw [if_neg (fun q => h1 (e1.mp q)), decide_eq_true (by omega)]
    by_cases h2 : 122 < c
    · rw [if_pos (e2.mpr h2), decide_eq_false (by omega)]; rfl
    · rw [if_neg (fun q => h2 (e2.mp q)), decide_eq_true (by omega)]; rfl
theorem isD_e {c : Nat} (h : c ≤ 1000) : (if nI c < 48 then (0 : Int32) else if 57 < nI c then 0 else 1) = zb (isDn c) := by
  have e1 : nI c < 48 ↔ c < 48 := zlt (b := 48) (by omega) (by omega)
  have e2 : 57 < nI c ↔ 57 < c := zlt (a := 57) (by omega) (by omega)
  unfold isDn
  by_cases h1 : c < 48
  · rw [if_pos (e1.mpr h1), decide_eq_false (by omega)]; rfl
  · rw [if_neg (fun q => h1 (e1.mp q)), decide_eq_true (by omega)]
    by_cases h2 : 57 < c
    · rw [if_pos (e2.mpr h2), decide_eq_false (by omega)]; rfl
    · rw [if_neg (fun q => h2 (e2.mp q)), decide_eq_true (by omega)]; rfl
theorem isM_e : ∀ c, c < 128 → (decide (nI c = 40) || decide (nI c = 41) || decide (nI c = 59) || decide (nI c = 61) || decide (nI c = 60) || decide (nI c = 43) || decide (nI c = 45)) = isMark c := by decide +kernel
theorem mtt_word {ch : Nat → Nat} {a e : Nat} (hle : a ≤ e) (ha : a ≤ 600) (h : ∀ i, a ≤ i → i < e → isLn (ch i) = true) : mtt (if 8 < e - a then 4 else 1) (lN (hsh ch a (min (e - a) 8))) (nI a) (if 8 < e - a then 1 else wk (hsh ch a (e - a)) 12, a, 0) := by
  by_cases h8 : 8 < e - a
  · rw [if_pos h8, if_pos h8]
    exact ⟨Or.inr (Or.inr (Or.inr (Or.inr ⟨rfl, Or.inl rfl⟩))), rfl, ha, by dsimp only; omega⟩
  · rw [if_neg h8, if_neg h8, Nat.min_eq_left (by omega)]
    have hb := hsh_b ch a (e - a) (fun i h1 h2 => h i h1 (by omega))
    have hb2 : 37 ^ (e - a) ≤ 37 ^ 8 := Nat.pow_le_pow_right (by omega) (by omega)
    have hb3 : hsh ch a (e - a) < 2 ^ 63 := by
      have : (37 : Nat) ^ 8 < 2 ^ 63 := by decide
      omega
    rcases wk_spec (hsh ch a (e - a)) 12 with ⟨w, h1, h2, h3⟩ | ⟨h1, h2⟩
    · refine ⟨Or.inr (Or.inr (Or.inl ⟨by dsimp only; omega, by dsimp only; omega, rfl, ?_⟩)), rfl, ha, by dsimp only; omega⟩
      dsimp only
      rw [h2, Nat.add_sub_cancel_left, (mwords_N w h1).1, h3]
    · refine ⟨Or.inr (Or.inr (Or.inr (Or.inr ⟨h1, Or.inr ⟨rfl, fun w hw q => ?_⟩⟩))), rfl, ha, by dsimp only; omega⟩
      obtain ⟨g1, g2⟩ := mwords_N w hw
      rw [g1, pk_lEQ hb3 (by omega)] at q
      exact h2 w hw q.symm
theorem mtt_num {ch : Nat → Nat} {a e : Nat} (hle : a ≤ e) (ha : a ≤ 600) (h : ∀ i, a ≤ i → i < e → isDn (ch i) = true) : mtt (if 4 < e - a then 4 else 2) (lN (dcm ch a (min (e - a) 4))) (nI a) (if 4 < e - a then 1 else 2, a, dcm ch a (e - a)) := by
  by_cases h8 : 4 < e - a
  · rw [if_pos h8, if_pos h8]
    exact ⟨Or.inr (Or.inr (Or.inr (Or.inr ⟨rfl, Or.inl rfl⟩))), rfl, ha, by dsimp only; omega⟩
  · rw [if_neg h8, if_neg h8, Nat.min_eq_left (by omega)]
    have hb := dcm_b ch a (e - a) (fun i h1 h2 => h i h1 (by omega))
    have hb2 : 10 ^ (e - a) ≤ 10 ^ 4 := Nat.pow_le_pow_right (by omega) (by omega)
    exact ⟨Or.inr (Or.inl ⟨rfl, rfl, rfl, by dsimp only; omega⟩), rfl, ha, by dsimp only; omega⟩
theorem mtt_mark {c a : Nat} (ha : a ≤ 600) : mtt (if isMark c = true then 3 else 4) (lN c) (nI a) (if isMark c = true then c else 1, a, 0) := by
  by_cases h : isMark c = true
  · rw [if_pos h, if_pos h]
    have := isMark_or h
    exact ⟨Or.inr (Or.inr (Or.inr (Or.inl ⟨h, rfl, rfl⟩))), rfl, ha, by dsimp only; omega⟩
  · rw [if_neg h, if_neg h]
    exact ⟨Or.inr (Or.inr (Or.inr (Or.inr ⟨rfl, Or.inl rfl⟩))), rfl, ha, by dsimp only; omega⟩
abbrev x9_cutAll : ZX := (RX9, cX9_cutAll, 7, none, "cutAll", 2, 80, true)
set_option maxHeartbeats 4000000 in
theorem l9_cutL {I : Nat → Nat → Int32} {L : Nat → Nat → Int64} {Q : Option Value → ZH → Prop} {ch : Nat → Nat} {T a e : Nat} {X1 : Int32} (hch : ∀ i, i < T → I 1 i = nI (ch i) ∧ ch i ≤ 126) (hT : T ≤ 600) (h3 : I 0 3 = nI T) : ∀ (m k : Nat) (ls : Nat → Option Value), T - k < m → a ≤ k → k ≤ T → rl isLn ch T m k = e → ls 0 = some (.ref 0) → ls 1 = some (.int X1) → ls 2 = some (.int (nI k)) → ls 4 = some (.int (nI a)) → ls 5 = some (.long (lN (hsh ch a (min (k - a) 8)))) → ls 6 = none → (∀ l2 : Nat → Option Value, l2 0 = some (.ref 0) → l2 1 = some (.int X1) → l2 2 = some (.int (nI e)) → l2 4 = some (.int (nI a)) → l2 5 = some (.long (lN (hsh ch a (min (e - a) 8)))) → l2 6 = none → Zf x9_cutAll 0 0 129 l2 [] (mh I L) Q) → Zf x9_cutAll 0 0 70 ls [] (mh I L) Q := by
  intro m
  induction m with
  | zero => intro k ls h; omega
  | succ m ih =>
  intro k ls hm hak hkT he hl0 hl1 hl2 hl4 hl5 hl6 hk
  simp only [rl] at he
  refine z_iload_n (i := 2) dX9_cutAll_70 rfl hl2 ?_
  refine z_aload_n (i := 0) dX9_cutAll_71 rfl hl0 ?_
  refine z_gI zf9_152.g dX9_cutAll_72 (by decide) rfl ?_
  rw [h3]
  refine z_icmp_ge 129 dX9_cutAll_75 (by decide) (fun c_1 => ?_) (fun c_1 => ?_)
  · skip
    have h9 := (zle (by omega) (by omega)).mp c_1
    rw [if_neg (by omega)] at he
    exact hk ls hl0 hl1 (by rw [← he]; exact hl2) hl4 (by rw [← he]; exact hl5) hl6
  · skip
    have hkT2 : k < T := Nat.lt_of_not_le (fun q => c_1 ((zle (by omega) (by omega)).mpr q))
    obtain ⟨hc1, hc2⟩ := hch k hkT2
    refine z_aload_n (i := 0) dX9_cutAll_78 rfl hl0 ?_
    refine z_gR zf9_7.g dX9_cutAll_79 (by decide) rfl rfl ?_
    refine z_iload_n (i := 2) dX9_cutAll_82 rfl hl2 ?_
    refine z_iald dX9_cutAll_83 (by decide) rfl (zvin (by omega) (by omega)) ?_
    rw [zcl (by omega), hc1]
    refine z_callS (st := []) (mc2 := 0) (ms2 := 0) zi9_148 zs_yX9_isLetter (c9_isLetter I L (nI (ch k))) dX9_cutAll_84 rfl rfl (by decide) (by decide) (Nat.le_of_ble_eq_true rfl) (by decide) (by decide) (fun r h2 hq => ?_)
    obtain ⟨rfl, rfl⟩ := hq
    rw [isL_e (by omega)]
    refine z_if_eq 129 dX9_cutAll_87 (by decide) (fun c_2 => ?_) (fun c_2 => ?_)
    · skip
      rw [if_neg (fun q => by have := (zb_0 _).mp c_2; rw [this] at q; exact absurd q.2 (by decide))] at he
      exact hk ls hl0 hl1 (by rw [← he]; exact hl2) hl4 (by rw [← he]; exact hl5) hl6
    · skip
      have hisl := (zb_n _).mp c_2
      rw [if_pos ⟨hkT2, hisl⟩] at he
      have hil2 : 97 ≤ ch k ∧ ch k ≤ 122 := by simpa [isLn] using hisl
      refine z_iload_n (i := 2) dX9_cutAll_90 rfl hl2 ?_
      refine z_iload dX9_cutAll_91 hl4 ?_
      refine z_isub dX9_cutAll_93 ?_
      refine z_top (y := .int (nI (k - a))) (by rw [pk_sub hak]) ?_
      refine z_bipush (v := 8) dX9_cutAll_94 (by decide) ?_
      refine z_icmp_ge 119 dX9_cutAll_96 (by decide) (fun c_3 => ?_) (fun c_3 => ?_)
      · skip
        have h8 : 8 ≤ k - a := (zle (a := 8) (by omega) (by omega)).mp c_3
        refine z_lload dX9_cutAll_119 hl5 ?_
        refine z_lstoreL dX9_cutAll_121 rfl (by decide) (zp_int hl4) hl6 ?_
        refine z_iincL dX9_cutAll_123 hl2 (zp_int hl1) ?_
        refine z_goto 70 dX9_cutAll_126 (by decide) ?_
        rw [zinc]
        exact ih (k + 1) _ (by omega) (by omega) (by omega) he hl0 hl1 rfl hl4 (show _ = some (Value.long (lN (hsh ch a (min (k + 1 - a) 8)))) by rw [Nat.min_eq_right (show 8 ≤ k + 1 - a by omega)]; rw [Nat.min_eq_right h8]; rfl) hl6 hk
      · skip
        have h8 : ¬ 8 ≤ k - a := fun q => c_3 ((zle (a := 8) (by omega) (by omega)).mpr q)
        refine z_ldc2 (v := 37) dX9_cutAll_99 (zTB_of (by decide +kernel) rfl) ?_
        refine z_lload dX9_cutAll_102 hl5 ?_
        refine z_lmul dX9_cutAll_104 ?_
        refine z_aload_n (i := 0) dX9_cutAll_105 rfl hl0 ?_
        refine z_gR zf9_7.g dX9_cutAll_106 (by decide) rfl rfl ?_
        refine z_iload_n (i := 2) dX9_cutAll_109 rfl hl2 ?_
        refine z_iald dX9_cutAll_110 (by decide) rfl (zvin (by omega) (by omega)) ?_
        rw [zcl (by omega), hc1]
        refine z_callS (st := [_]) (mc2 := 0) (ms2 := 0) zi9_157 zs_yX9_rank (c9_rank I L (nI (ch k)) (by rw [zl97, zlt (by omega) (by omega)]; omega) (by rw [zl122, zlt (by omega) (by omega)]; omega)) dX9_cutAll_111 rfl rfl (by decide) (by decide) (Nat.le_of_ble_eq_true rfl) (by decide) (by decide) (fun r h2 hq => ?_)
        obtain ⟨rfl, rfl⟩ := hq
        refine z_i2l dX9_cutAll_114 rfl ?_
        refine z_ladd dX9_cutAll_115 ?_
        refine z_goto 121 dX9_cutAll_116 (by decide) ?_
        refine z_topl ?_
        intro yy hyy
        have hy2 : yy = lN (hsh ch a (min (k + 1 - a) 8)) := by
          rw [hyy, Nat.min_eq_left (show k - a ≤ 8 by omega), Nat.min_eq_left (show k + 1 - a ≤ 8 by omega), show k + 1 - a = (k - a) + 1 by omega, zl96, pk_sub (by omega), nI_l (by omega), show (37 : Int64) = lN 37 from rfl, lN_mul, lN_add]
          simp only [hsh]
          rw [show a + (k - a) = k by omega]
        clear hyy
        subst hy2
        refine z_lstoreL dX9_cutAll_121 rfl (by decide) (zp_int hl4) hl6 ?_
        refine z_iincL dX9_cutAll_123 hl2 (zp_int hl1) ?_
        refine z_goto 70 dX9_cutAll_126 (by decide) ?_
        rw [zinc]
        exact ih (k + 1) _ (by omega) (by omega) (by omega) he hl0 hl1 rfl hl4 rfl hl6 hk
set_option maxHeartbeats 4000000 in
theorem l9_cutD {I : Nat → Nat → Int32} {L : Nat → Nat → Int64} {Q : Option Value → ZH → Prop} {ch : Nat → Nat} {T a e : Nat} {X1 : Int32} (hch : ∀ i, i < T → I 1 i = nI (ch i) ∧ ch i ≤ 126) (hT : T ≤ 600) (h3 : I 0 3 = nI T) : ∀ (m k : Nat) (ls : Nat → Option Value), T - k < m → a ≤ k → k ≤ T → rl isDn ch T m k = e → ls 0 = some (.ref 0) → ls 1 = some (.int X1) → ls 2 = some (.int (nI k)) → ls 4 = some (.int (nI a)) → ls 5 = some (.long (lN (dcm ch a (min (k - a) 4)))) → ls 6 = none → (∀ l2 : Nat → Option Value, l2 0 = some (.ref 0) → l2 1 = some (.int X1) → l2 2 = some (.int (nI e)) → l2 4 = some (.int (nI a)) → l2 5 = some (.long (lN (dcm ch a (min (e - a) 4)))) → l2 6 = none → Zf x9_cutAll 0 0 218 l2 [] (mh I L) Q) → Zf x9_cutAll 0 0 159 ls [] (mh I L) Q := by
  intro m
  induction m with
  | zero => intro k ls h; omega
  | succ m ih =>
  intro k ls hm hak hkT he hl0 hl1 hl2 hl4 hl5 hl6 hk
  simp only [rl] at he
  refine z_iload_n (i := 2) dX9_cutAll_159 rfl hl2 ?_
  refine z_aload_n (i := 0) dX9_cutAll_160 rfl hl0 ?_
  refine z_gI zf9_152.g dX9_cutAll_161 (by decide) rfl ?_
  rw [h3]
  refine z_icmp_ge 218 dX9_cutAll_164 (by decide) (fun c_1 => ?_) (fun c_1 => ?_)
  · skip
    have h9 := (zle (by omega) (by omega)).mp c_1
    rw [if_neg (by omega)] at he
    exact hk ls hl0 hl1 (by rw [← he]; exact hl2) hl4 (by rw [← he]; exact hl5) hl6
  · skip
    have hkT2 : k < T := Nat.lt_of_not_le (fun q => c_1 ((zle (by omega) (by omega)).mpr q))
    obtain ⟨hc1, hc2⟩ := hch k hkT2
    refine z_aload_n (i := 0) dX9_cutAll_167 rfl hl0 ?_
    refine z_gR zf9_7.g dX9_cutAll_168 (by decide) rfl rfl ?_
    refine z_iload_n (i := 2) dX9_cutAll_171 rfl hl2 ?_
    refine z_iald dX9_cutAll_172 (by decide) rfl (zvin (by omega) (by omega)) ?_
    rw [zcl (by omega), hc1]
    refine z_callS (st := []) (mc2 := 0) (ms2 := 0) zi9_160 zs_yX9_isDigit (c9_isDigit I L (nI (ch k))) dX9_cutAll_173 rfl rfl (by decide) (by decide) (Nat.le_of_ble_eq_true rfl) (by decide) (by decide) (fun r h2 hq => ?_)
    obtain ⟨rfl, rfl⟩ := hq
    rw [isD_e (by omega)]
    refine z_if_eq 218 dX9_cutAll_176 (by decide) (fun c_2 => ?_) (fun c_2 => ?_)
    · skip
      rw [if_neg (fun q => by have := (zb_0 _).mp c_2; rw [this] at q; exact absurd q.2 (by decide))] at he
      exact hk ls hl0 hl1 (by rw [← he]; exact hl2) hl4 (by rw [← he]; exact hl5) hl6
    · skip
      have hisl := (zb_n _).mp c_2
      rw [if_pos ⟨hkT2, hisl⟩] at he
      have hil2 : 48 ≤ ch k ∧ ch k ≤ 57 := by simpa [isDn] using hisl
      refine z_iload_n (i := 2) dX9_cutAll_179 rfl hl2 ?_
      refine z_iload dX9_cutAll_180 hl4 ?_
      refine z_isub dX9_cutAll_182 ?_
      refine z_top (y := .int (nI (k - a))) (by rw [pk_sub hak]) ?_
      refine z_iconst (v := 4) dX9_cutAll_183 (by decide) ?_
      refine z_icmp_ge 208 dX9_cutAll_184 (by decide) (fun c_3 => ?_) (fun c_3 => ?_)
      · skip
        have h8 : 4 ≤ k - a := (zle (a := 4) (by omega) (by omega)).mp c_3
        refine z_lload dX9_cutAll_208 hl5 ?_
        refine z_lstoreL dX9_cutAll_210 rfl (by decide) (zp_int hl4) hl6 ?_
        refine z_iincL dX9_cutAll_212 hl2 (zp_int hl1) ?_
        refine z_goto 159 dX9_cutAll_215 (by decide) ?_
        rw [zinc]
        exact ih (k + 1) _ (by omega) (by omega) (by omega) he hl0 hl1 rfl hl4 (show _ = some (Value.long (lN (dcm ch a (min (k + 1 - a) 4)))) by rw [Nat.min_eq_right (show 4 ≤ k + 1 - a by omega)]; rw [Nat.min_eq_right h8]; rfl) hl6 hk
      · skip
        have h8 : ¬ 4 ≤ k - a := fun q => c_3 ((zle (a := 4) (by omega) (by omega)).mpr q)
        refine z_ldc2 (v := 10) dX9_cutAll_187 (zTB_of (by decide +kernel) rfl) ?_
        refine z_lload dX9_cutAll_190 hl5 ?_
        refine z_lmul dX9_cutAll_192 ?_
        refine z_aload_n (i := 0) dX9_cutAll_193 rfl hl0 ?_
        refine z_gR zf9_7.g dX9_cutAll_194 (by decide) rfl rfl ?_
        refine z_iload_n (i := 2) dX9_cutAll_197 rfl hl2 ?_
        refine z_iald dX9_cutAll_198 (by decide) rfl (zvin (by omega) (by omega)) ?_
        rw [zcl (by omega), hc1]
        refine z_i2l dX9_cutAll_199 rfl ?_
        refine z_ladd dX9_cutAll_200 ?_
        refine z_ldc2 (v := 48) dX9_cutAll_201 (zTB_of (by decide +kernel) rfl) ?_
        refine z_lsub dX9_cutAll_204 ?_
        refine z_goto 210 dX9_cutAll_205 (by decide) ?_
        refine z_topl ?_
        intro yy hyy
        have hy2 : yy = lN (dcm ch a (min (k + 1 - a) 4)) := by
          rw [hyy, Nat.min_eq_left (show k - a ≤ 4 by omega), Nat.min_eq_left (show k + 1 - a ≤ 4 by omega), show k + 1 - a = (k - a) + 1 by omega, nI_l (by omega), show (10 : Int64) = lN 10 from rfl, show (48 : Int64) = lN 48 from rfl, lN_mul, lN_add, lN_sub (by omega)]
          simp only [dcm]
          rw [show a + (k - a) = k by omega, Nat.add_sub_assoc (by omega)]
        clear hyy
        subst hy2
        refine z_lstoreL dX9_cutAll_210 rfl (by decide) (zp_int hl4) hl6 ?_
        refine z_iincL dX9_cutAll_212 hl2 (zp_int hl1) ?_
        refine z_goto 159 dX9_cutAll_215 (by decide) ?_
        rw [zinc]
        exact ih (k + 1) _ (by omega) (by omega) (by omega) he hl0 hl1 rfl hl4 rfl hl6 hk
