def mth (I : Nat → Nat → Int32) (k : Nat) : Bool := decide (I 31 k = 1) || decide (I 31 k = 2)
def mhc (I : Nat → Nat → Int32) (k : Nat) (c : Int32) : Bool := decide (I 25 k = c) || decide (I 26 k = c)
def mga (I : Nat → Nat → Int32) (s : Int32) : Nat → Int32
  | 0 => -1
  | k + 1 => if mth I k = true ∧ I 32 k = s then nI k else mga I s k
def mfr (I : Nat → Nat → Int32) (g : Nat) (s : Int32) : Nat → Bool
  | 0 => true
  | k + 1 => if k ≠ g ∧ mth I k = true ∧ I 32 k / 24 = s / 24 then (mfr I g s k && !mhc I k (I 25 g) && !mhc I k (I 26 g)) else mfr I g s k
def msu (I : Nat → Nat → Int32) (G g S : Nat) : Bool := decide (¬ I 16 (S % 6) < I 27 g) && decide (mga I (nI S) G < 0) && mfr I g (nI S) G
def mfP (I : Nat → Nat → Int32) (P G g : Nat) (wished : Bool) (but : Int32) (S : Nat) : Bool := decide (S % 6 < P) && (!wished || decide ((I 30 g >>> ((4 * nI (S / 24 % 7) + nI (S / 6 % 4)) &&& 31)) &&& 1 = 1)) && decide (¬ nI S = but) && msu I G g S
def mfind (p : Nat → Bool) (lo : Nat) : Nat → Int32
  | 0 => -1
  | k + 1 => if p lo = true then nI lo else mfind p (lo + 1) k
theorem mfind_hit {p : Nat → Bool} {lo : Nat} (h : p lo = true) {k : Nat} (hk : 0 < k) : mfind p lo k = nI lo := by
  obtain ⟨j, rfl⟩ : ∃ j, k = j + 1 := ⟨k - 1, by omega⟩
  simp [mfind, h]
theorem mfind_miss {p : Nat → Bool} {lo : Nat} (h : p lo = false) {k : Nat} (hk : 0 < k) : mfind p lo k = mfind p (lo + 1) (k - 1) := by
  obtain ⟨j, rfl⟩ : ∃ j, k = j + 1 := ⟨k - 1, by omega⟩
  simp [mfind, h]
theorem mfind_skip {p : Nat → Bool} : ∀ (m lo k : Nat), (∀ S, lo ≤ S → S < lo + m → p S = false) → m ≤ k → mfind p lo k = mfind p (lo + m) (k - m)
  | 0, lo, k, _, _ => rfl
  | m + 1, lo, k, h, hk => by
    rw [mfind_miss (h lo (by omega) (by omega)) (by omega), mfind_skip m (lo + 1) (k - 1) (fun S h1 h2 => h S (by omega) (by omega)) (by omega), show lo + 1 + m = lo + (m + 1) by omega, show k - 1 - m = k - (m + 1) by omega]
def mg1 (warm wet x : Int32) : Int32 := (if wet < 9 then x else if x ≤ 10 then 0 else x - 10) + (1000 - (if wet < 9 then x else if x ≤ 10 then 0 else x - 10)) * warm * (10 - (if wet ≤ 5 then 2 * (5 - wet) else 2 * (wet - 5))) / 2000
def mgI (I : Nat → Nat → Int32) (A : Nat) (warm wet : Int32) (m : Nat) : Nat → Nat → Int32 := fun a j => if a = A ∧ j < m then mg1 warm wet (I a j) else I a j
theorem mgI_0 (I : Nat → Nat → Int32) (A : Nat) (warm wet : Int32) : mgI I A warm wet 0 = I := by
  funext a j
  unfold mgI
  rw [if_neg (by omega)]
theorem mgI_at (I : Nat → Nat → Int32) (A : Nat) (warm wet : Int32) (m : Nat) : mgI I A warm wet m A m = I A m := by
  unfold mgI
  rw [if_neg (by omega)]
theorem mgI_ne (I : Nat → Nat → Int32) (A : Nat) (warm wet : Int32) (m a j : Nat) (h : a ≠ A) : mgI I A warm wet m a j = I a j := by
  unfold mgI
  rw [if_neg (by omega)]
theorem mgI_s (I : Nat → Nat → Int32) (A : Nat) (warm wet : Int32) (m : Nat) : zu (mgI I A warm wet m) A m (mg1 warm wet (I A m)) = mgI I A warm wet (m + 1) := by
  funext a j
  rw [zu_apply]
  unfold mgI
  by_cases h : a = A ∧ j = m
  · obtain ⟨rfl, rfl⟩ := h
    rw [if_pos ⟨rfl, rfl⟩, if_pos (by omega)]
  · rw [if_neg h]
    by_cases h2 : a = A ∧ j < m
    · rw [if_pos h2, if_pos (by omega)]
    · rw [if_neg h2, if_neg (by
        intro h3
        apply h2
        refine ⟨h3.1, ?_⟩
        have : ¬ j = m := fun e => h ⟨h3.1, e⟩
        omega)]
abbrev x9_grows : ZX := (RX9, cX9_grows, 7, none, "grows", 0, 0, false)
set_option maxHeartbeats 4000000 in
theorem l9_grows {I : Nat → Nat → Int32} {L : Nat → Nat → Int64} {Q : Option Value → ZH → Prop} {A P : Nat} {warm wet : Int32} (hA : A < 35) (hA0 : A ≠ 0) (hKA : mK A = (0, 144)) (hP : P ≤ 6) (h24 : I 0 24 = nI P) (hQ : Q none (mh (mgI I A warm wet (24 * P)) L)) : ∀ (m j : Nat), 24 * P - j < m → j ≤ 24 * P → ∀ (J : Nat → Nat → Int32) (ls : Nat → Option Value), J = mgI I A warm wet j → ls 0 = some (.ref 0) → ls 1 = some (.ref A) → ls 2 = some (.int warm) → ls 3 = some (.int wet) → ls 4 = some (.int (if wet ≤ 5 then 2 * (5 - wet) else 2 * (wet - 5))) → ls 5 = some (.int (nI j)) → Zf x9_grows 0 0 23 ls [] (mh J L) Q := by
  intro m
  induction m with
  | zero => intro j h; omega
  | succ m ih =>
  intro j hm hj J ls hJ hl0 hl1 hl2 hl3 hl4 hl5
  subst hJ
  refine z_iload dX9_grows_23 hl5 ?_
  refine z_bipush (v := 24) dX9_grows_25 (by decide) ?_
  refine z_aload_n (i := 0) dX9_grows_27 rfl hl0 ?_
  refine z_gI zf9_236.g dX9_grows_28 (by decide) rfl ?_
  rw [mgI_ne _ _ _ _ _ _ _ (Ne.symm hA0), h24]
  refine z_imul dX9_grows_31 ?_
  simp only [zl24, pk_mul]
  refine z_icmp_ge 101 dX9_grows_32 (by decide) (fun c_1 => ?_) (fun c_1 => ?_)
  · skip
    have h1 := (zle (by omega) (by omega)).mp c_1
    have h2 : j = 24 * P := by omega
    subst h2
    refine z_vret dX9_grows_101 rfl ?_
    exact hQ
  · skip
    have h1 : ¬ 24 * P ≤ j := fun q => c_1 ((zle (by omega) (by omega)).mpr q)
    refine z_iload_n (i := 3) dX9_grows_35 rfl hl3 ?_
    refine z_bipush (v := 9) dX9_grows_36 (by decide) ?_
    refine z_icmp_lt 64 dX9_grows_38 (by decide) (fun c_2 => ?_) (fun c_2 => ?_)
    · skip
      refine z_aload_n (i := 1) dX9_grows_64 rfl hl1 ?_
      refine z_iload dX9_grows_65 hl5 ?_
      refine z_iald dX9_grows_67 hA hKA (zvin (by omega) (by omega)) ?_
      try rw [zcl (by omega), mgI_at]
      refine z_topi (fun w hw => ?_)
      have e2 : w = (if wet < 9 then I A j else if I A j ≤ 10 then 0 else I A j - 10) := by rw [hw]; simp [*]
      subst e2
      refine z_istore (i := 6) dX9_grows_68 (by decide) rfl ?_
      refine z_aload_n (i := 1) dX9_grows_70 rfl hl1 ?_
      refine z_iload dX9_grows_71 hl5 ?_
      refine z_iload dX9_grows_73 rfl ?_
      refine z_sipush (v := 1000) dX9_grows_75 (by decide) ?_
      refine z_iload dX9_grows_78 rfl ?_
      refine z_isub dX9_grows_80 ?_
      refine z_iload_n (i := 2) dX9_grows_81 rfl hl2 ?_
      refine z_imul dX9_grows_82 ?_
      refine z_bipush (v := 10) dX9_grows_83 (by decide) ?_
      refine z_iload dX9_grows_85 hl4 ?_
      refine z_isub dX9_grows_87 ?_
      refine z_imul dX9_grows_88 ?_
      refine z_sipush (v := 2000) dX9_grows_89 (by decide) ?_
      refine z_idiv dX9_grows_92 (by decide) ?_
      refine z_iadd dX9_grows_93 ?_
      refine z_iast dX9_grows_94 hA hKA (zvin (by omega) (by omega)) ?_
      refine z_iinc dX9_grows_95 hl5 rfl ?_
      refine z_goto 23 dX9_grows_98 (by decide) ?_
      rw [zinc]
      exact ih (j + 1) (by omega) (by omega) _ _ (by rw [zcl (by omega)]; exact mgI_s I A warm wet j) hl0 hl1 hl2 hl3 hl4 rfl
    · skip
      refine z_aload_n (i := 1) dX9_grows_41 rfl hl1 ?_
      refine z_iload dX9_grows_42 hl5 ?_
      refine z_iald dX9_grows_44 hA hKA (zvin (by omega) (by omega)) ?_
      rw [zcl (by omega), mgI_at]
      refine z_bipush (v := 10) dX9_grows_45 (by decide) ?_
      refine z_icmp_le 60 dX9_grows_47 (by decide) (fun c_3 => ?_) (fun c_3 => ?_)
      · skip
        refine z_iconst (v := 0) dX9_grows_60 (by decide) ?_
        refine z_goto 68 dX9_grows_61 (by decide) ?_
        try rw [zcl (by omega), mgI_at]
        refine z_topi (fun w hw => ?_)
        have e2 : w = (if wet < 9 then I A j else if I A j ≤ 10 then 0 else I A j - 10) := by rw [hw]; simp [*]
        subst e2
        refine z_istore (i := 6) dX9_grows_68 (by decide) rfl ?_
        refine z_aload_n (i := 1) dX9_grows_70 rfl hl1 ?_
        refine z_iload dX9_grows_71 hl5 ?_
        refine z_iload dX9_grows_73 rfl ?_
        refine z_sipush (v := 1000) dX9_grows_75 (by decide) ?_
        refine z_iload dX9_grows_78 rfl ?_
        refine z_isub dX9_grows_80 ?_
        refine z_iload_n (i := 2) dX9_grows_81 rfl hl2 ?_
        refine z_imul dX9_grows_82 ?_
        refine z_bipush (v := 10) dX9_grows_83 (by decide) ?_
        refine z_iload dX9_grows_85 hl4 ?_
        refine z_isub dX9_grows_87 ?_
        refine z_imul dX9_grows_88 ?_
        refine z_sipush (v := 2000) dX9_grows_89 (by decide) ?_
        refine z_idiv dX9_grows_92 (by decide) ?_
        refine z_iadd dX9_grows_93 ?_
        refine z_iast dX9_grows_94 hA hKA (zvin (by omega) (by omega)) ?_
        refine z_iinc dX9_grows_95 hl5 rfl ?_
        refine z_goto 23 dX9_grows_98 (by decide) ?_
        rw [zinc]
        exact ih (j + 1) (by omega) (by omega) _ _ (by rw [zcl (by omega)]; exact mgI_s I A warm wet j) hl0 hl1 hl2 hl3 hl4 rfl
      · skip
        refine z_aload_n (i := 1) dX9_grows_50 rfl hl1 ?_
        refine z_iload dX9_grows_51 hl5 ?_
        refine z_iald dX9_grows_53 hA hKA (zvin (by omega) (by omega)) ?_
        rw [zcl (by omega), mgI_at]
        refine z_bipush (v := 10) dX9_grows_54 (by decide) ?_
        refine z_isub dX9_grows_56 ?_
        refine z_goto 68 dX9_grows_57 (by decide) ?_
        try rw [zcl (by omega), mgI_at]
        refine z_topi (fun w hw => ?_)
        have e2 : w = (if wet < 9 then I A j else if I A j ≤ 10 then 0 else I A j - 10) := by rw [hw]; simp [*]
        subst e2
        refine z_istore (i := 6) dX9_grows_68 (by decide) rfl ?_
        refine z_aload_n (i := 1) dX9_grows_70 rfl hl1 ?_
        refine z_iload dX9_grows_71 hl5 ?_
        refine z_iload dX9_grows_73 rfl ?_
        refine z_sipush (v := 1000) dX9_grows_75 (by decide) ?_
        refine z_iload dX9_grows_78 rfl ?_
        refine z_isub dX9_grows_80 ?_
        refine z_iload_n (i := 2) dX9_grows_81 rfl hl2 ?_
        refine z_imul dX9_grows_82 ?_
        refine z_bipush (v := 10) dX9_grows_83 (by decide) ?_
        refine z_iload dX9_grows_85 hl4 ?_
        refine z_isub dX9_grows_87 ?_
        refine z_imul dX9_grows_88 ?_
        refine z_sipush (v := 2000) dX9_grows_89 (by decide) ?_
        refine z_idiv dX9_grows_92 (by decide) ?_
        refine z_iadd dX9_grows_93 ?_
        refine z_iast dX9_grows_94 hA hKA (zvin (by omega) (by omega)) ?_
        refine z_iinc dX9_grows_95 hl5 rfl ?_
        refine z_goto 23 dX9_grows_98 (by decide) ?_
        rw [zinc]
        exact ih (j + 1) (by omega) (by omega) _ _ (by rw [zcl (by omega)]; exact mgI_s I A warm wet j) hl0 hl1 hl2 hl3 hl4 rfl
set_option maxHeartbeats 4000000 in
theorem c9_grows (I : Nat → Nat → Int32) (L : Nat → Nat → Int64) (A P : Nat) (warm wet : Int32) (hA : A < 35) (hA0 : A ≠ 0) (hKA : mK A = (0, 144)) (hP : P ≤ 6) (h24 : I 0 24 = nI P) : Zm yX9_grows cX9_grows 7 none 0 0 0 0 [.ref 0, .ref A, .int warm, .int wet] (mh I L) (mQ none (mgI I A warm wet (24 * P)) L) := by
  refine Zm_of (lg := false) (by decide) (fun _ => by simp [Value.category]) (fun _ => Nat.le_of_ble_eq_true rfl) ?_
  show Zf x9_grows 0 0 0 (zargs [.ref 0, .ref A, .int warm, .int wet]) [] (mh I L) _
  refine z_iload_n (i := 3) dX9_grows_0 rfl rfl ?_
  refine z_iconst (v := 5) dX9_grows_1 (by decide) ?_
  refine z_icmp_le 13 dX9_grows_2 (by decide) (fun c_1 => ?_) (fun c_1 => ?_)
  · skip
    refine z_iconst (v := 2) dX9_grows_13 (by decide) ?_
    refine z_iconst (v := 5) dX9_grows_14 (by decide) ?_
    refine z_iload_n (i := 3) dX9_grows_15 rfl rfl ?_
    refine z_isub dX9_grows_16 ?_
    refine z_imul dX9_grows_17 ?_
    refine z_topi (fun w hw => ?_)
    have e2 : w = (if wet ≤ 5 then 2 * (5 - wet) else 2 * (wet - 5)) := by rw [hw]; simp [*]
    subst e2
    refine z_istore (i := 4) dX9_grows_18 (by decide) rfl ?_
    refine z_iconst (v := 0) dX9_grows_20 (by decide) ?_
    refine z_istore (i := 5) dX9_grows_21 (by decide) rfl ?_
    exact l9_grows (P := P) (warm := warm) (wet := wet) hA hA0 hKA hP h24 ⟨rfl, rfl⟩ (24 * P + 1) 0 (by omega) (by omega) _ _ (mgI_0 _ _ _ _).symm rfl rfl rfl rfl rfl rfl
  · skip
    refine z_iconst (v := 2) dX9_grows_5 (by decide) ?_
    refine z_iload_n (i := 3) dX9_grows_6 rfl rfl ?_
    refine z_iconst (v := 5) dX9_grows_7 (by decide) ?_
    refine z_isub dX9_grows_8 ?_
    refine z_imul dX9_grows_9 ?_
    refine z_goto 18 dX9_grows_10 (by decide) ?_
    refine z_topi (fun w hw => ?_)
    have e2 : w = (if wet ≤ 5 then 2 * (5 - wet) else 2 * (wet - 5)) := by rw [hw]; simp [*]
    subst e2
    refine z_istore (i := 4) dX9_grows_18 (by decide) rfl ?_
    refine z_iconst (v := 0) dX9_grows_20 (by decide) ?_
    refine z_istore (i := 5) dX9_grows_21 (by decide) rfl ?_
    exact l9_grows (P := P) (warm := warm) (wet := wet) hA hA0 hKA hP h24 ⟨rfl, rfl⟩ (24 * P + 1) 0 (by omega) (by omega) _ _ (mgI_0 _ _ _ _).symm rfl rfl rfl rfl rfl rfl
abbrev x9_isGone : ZX := (RX9, cX9_isGone, 2, (some .boolean), "isGone", 0, 0, false)
set_option maxHeartbeats 4000000 in
theorem c9_isGone (I : Nat → Nat → Int32) (L : Nat → Nat → Int64) (w : Int32) : Zm yX9_isGone cX9_isGone 2 (some .boolean) 0 0 0 0 [.ref 0, .int w] (mh I L) (mQ (some (.int (if w < 0 then 1 else if 50 < w then 1 else if I 0 34 < 7 * (w + 1) then 0 else 1))) I L) := by
  refine Zm_of (lg := false) (by decide) (fun _ => by simp [Value.category]) (fun _ => Nat.le_of_ble_eq_true rfl) ?_
  show Zf x9_isGone 0 0 0 (zargs [.ref 0, .int w]) [] (mh I L) _
  refine z_iload_n (i := 1) dX9_isGone_0 rfl rfl ?_
  refine z_if_lt 23 dX9_isGone_1 (by decide) (fun c_1 => ?_) (fun c_1 => ?_)
  · skip
    refine z_iconst (v := 1) dX9_isGone_23 (by decide) ?_
    refine z_goto 28 dX9_isGone_24 (by decide) ?_
    refine z_zret dX9_isGone_28 rfl (by decide) ?_
    exact ⟨by simp [*], by simp [*]⟩
  · skip
    refine z_iload_n (i := 1) dX9_isGone_4 rfl rfl ?_
    refine z_bipush (v := 50) dX9_isGone_5 (by decide) ?_
    refine z_icmp_gt 23 dX9_isGone_7 (by decide) (fun c_2 => ?_) (fun c_2 => ?_)
    · skip
      refine z_iconst (v := 1) dX9_isGone_23 (by decide) ?_
      refine z_goto 28 dX9_isGone_24 (by decide) ?_
      refine z_zret dX9_isGone_28 rfl (by decide) ?_
      exact ⟨by simp [*], by simp [*]⟩
    · skip
      refine z_bipush (v := 7) dX9_isGone_10 (by decide) ?_
      refine z_iload_n (i := 1) dX9_isGone_12 rfl rfl ?_
      refine z_iconst (v := 1) dX9_isGone_13 (by decide) ?_
      refine z_iadd dX9_isGone_14 ?_
      refine z_imul dX9_isGone_15 ?_
      refine z_aload_n (i := 0) dX9_isGone_16 rfl rfl ?_
      refine z_gI zf9_239.g dX9_isGone_17 (by decide) rfl ?_
      refine z_icmp_gt 27 dX9_isGone_20 (by decide) (fun c_3 => ?_) (fun c_3 => ?_)
      · skip
        refine z_iconst (v := 0) dX9_isGone_27 (by decide) ?_
        refine z_zret dX9_isGone_28 rfl (by decide) ?_
        exact ⟨by simp [*], by simp [*]⟩
      · skip
        refine z_iconst (v := 1) dX9_isGone_23 (by decide) ?_
        refine z_goto 28 dX9_isGone_24 (by decide) ?_
        refine z_zret dX9_isGone_28 rfl (by decide) ?_
        exact ⟨by simp [*], by simp [*]⟩
abbrev x9_isThere : ZX := (RX9, cX9_isThere, 2, (some .boolean), "isThere", 0, 0, false)
set_option maxHeartbeats 4000000 in
theorem c9_isThere (I : Nat → Nat → Int32) (L : Nat → Nat → Int64) (g : Nat) (hg : g < 60) : Zm yX9_isThere cX9_isThere 2 (some .boolean) 0 0 0 0 [.ref 0, .int (nI g)] (mh I L) (mQ (some (.int (zb (mth I g)))) I L) := by
  refine Zm_of (lg := false) (by decide) (fun _ => by simp [Value.category]) (fun _ => Nat.le_of_ble_eq_true rfl) ?_
  show Zf x9_isThere 0 0 0 (zargs [.ref 0, .int (nI g)]) [] (mh I L) _
  refine z_aload_n (i := 0) dX9_isThere_0 rfl rfl ?_
  refine z_gR zf9_125.g dX9_isThere_1 (by decide) rfl rfl ?_
  refine z_iload_n (i := 1) dX9_isThere_4 rfl rfl ?_
  refine z_iald dX9_isThere_5 (by decide) rfl (zvin (by omega) (by omega)) ?_
  rw [zcl (by omega)]
  refine z_iconst (v := 1) dX9_isThere_6 (by decide) ?_
  refine z_icmp_eq 20 dX9_isThere_7 (by decide) (fun c_1 => ?_) (fun c_1 => ?_)
  · skip
    refine z_iconst (v := 1) dX9_isThere_20 (by decide) ?_
    refine z_goto 25 dX9_isThere_21 (by decide) ?_
    refine z_zret dX9_isThere_25 rfl (by decide) ?_
    exact ⟨by simp [mth, zb, *], rfl⟩
  · skip
    refine z_aload_n (i := 0) dX9_isThere_10 rfl rfl ?_
    refine z_gR zf9_125.g dX9_isThere_11 (by decide) rfl rfl ?_
    refine z_iload_n (i := 1) dX9_isThere_14 rfl rfl ?_
    refine z_iald dX9_isThere_15 (by decide) rfl (zvin (by omega) (by omega)) ?_
    rw [zcl (by omega)]
    refine z_iconst (v := 2) dX9_isThere_16 (by decide) ?_
    refine z_icmp_ne 24 dX9_isThere_17 (by decide) (fun c_2 => ?_) (fun c_2 => ?_)
    · skip
      refine z_iconst (v := 0) dX9_isThere_24 (by decide) ?_
      refine z_zret dX9_isThere_25 rfl (by decide) ?_
      exact ⟨by simp [mth, zb, *], rfl⟩
    · skip
      refine z_iconst (v := 1) dX9_isThere_20 (by decide) ?_
      refine z_goto 25 dX9_isThere_21 (by decide) ?_
      refine z_zret dX9_isThere_25 rfl (by decide) ?_
      exact ⟨by simp [mth, zb, *], rfl⟩
abbrev x9_hasClub : ZX := (RX9, cX9_hasClub, 3, (some .boolean), "hasClub", 0, 0, false)
set_option maxHeartbeats 4000000 in
theorem c9_hasClub (I : Nat → Nat → Int32) (L : Nat → Nat → Int64) (g : Nat) (c : Int32) (hg : g < 60) : Zm yX9_hasClub cX9_hasClub 3 (some .boolean) 0 0 0 0 [.ref 0, .int (nI g), .int c] (mh I L) (mQ (some (.int (zb (mhc I g c)))) I L) := by
  refine Zm_of (lg := false) (by decide) (fun _ => by simp [Value.category]) (fun _ => Nat.le_of_ble_eq_true rfl) ?_
  show Zf x9_hasClub 0 0 0 (zargs [.ref 0, .int (nI g), .int c]) [] (mh I L) _
  refine z_aload_n (i := 0) dX9_hasClub_0 rfl rfl ?_
  refine z_gR zf9_107.g dX9_hasClub_1 (by decide) rfl rfl ?_
  refine z_iload_n (i := 1) dX9_hasClub_4 rfl rfl ?_
  refine z_iald dX9_hasClub_5 (by decide) rfl (zvin (by omega) (by omega)) ?_
  rw [zcl (by omega)]
  refine z_iload_n (i := 2) dX9_hasClub_6 rfl rfl ?_
  refine z_icmp_eq 20 dX9_hasClub_7 (by decide) (fun c_1 => ?_) (fun c_1 => ?_)
  · skip
    refine z_iconst (v := 1) dX9_hasClub_20 (by decide) ?_
    refine z_goto 25 dX9_hasClub_21 (by decide) ?_
    refine z_zret dX9_hasClub_25 rfl (by decide) ?_
    exact ⟨by simp [mhc, zb, *], rfl⟩
  · skip
    refine z_aload_n (i := 0) dX9_hasClub_10 rfl rfl ?_
    refine z_gR zf9_110.g dX9_hasClub_11 (by decide) rfl rfl ?_
    refine z_iload_n (i := 1) dX9_hasClub_14 rfl rfl ?_
    refine z_iald dX9_hasClub_15 (by decide) rfl (zvin (by omega) (by omega)) ?_
    rw [zcl (by omega)]
    refine z_iload_n (i := 2) dX9_hasClub_16 rfl rfl ?_
    refine z_icmp_ne 24 dX9_hasClub_17 (by decide) (fun c_2 => ?_) (fun c_2 => ?_)
    · skip
      refine z_iconst (v := 0) dX9_hasClub_24 (by decide) ?_
      refine z_zret dX9_hasClub_25 rfl (by decide) ?_
      exact ⟨by simp [mhc, zb, *], rfl⟩
    · skip
      refine z_iconst (v := 1) dX9_hasClub_20 (by decide) ?_
      refine z_goto 25 dX9_hasClub_21 (by decide) ?_
      refine z_zret dX9_hasClub_25 rfl (by decide) ?_
      exact ⟨by simp [mhc, zb, *], rfl⟩
abbrev x9_gameAt : ZX := (RX9, cX9_gameAt, 4, (some .int), "gameAt", 1, 40, false)
set_option maxHeartbeats 4000000 in
theorem l9_gameAt {I : Nat → Nat → Int32} {L : Nat → Nat → Int64} {Q : Option Value → ZH → Prop} {G : Nat} {s : Int32} (hG : G ≤ 60) (h35 : I 0 35 = nI G) (hQ : Q (some (.int (mga I s G))) (mh I L)) : ∀ (m j : Nat), G - j < m → j ≤ G → ∀ ls : Nat → Option Value, ls 0 = some (.ref 0) → ls 1 = some (.int s) → ls 2 = some (.int (mga I s j)) → ls 3 = some (.int (nI j)) → Zf x9_gameAt 0 0 4 ls [] (mh I L) Q := by
  intro m
  induction m with
  | zero => intro j h; omega
  | succ m ih =>
  intro j hm hj ls hl0 hl1 hl2 hl3
  refine z_iload_n (i := 3) dX9_gameAt_4 rfl hl3 ?_
  refine z_aload_n (i := 0) dX9_gameAt_5 rfl hl0 ?_
  refine z_gI zf9_253.g dX9_gameAt_6 (by decide) rfl ?_
  rw [h35]
  refine z_icmp_ge 42 dX9_gameAt_9 (by decide) (fun c_1 => ?_) (fun c_1 => ?_)
  · skip
    have h1 := (zle (by omega) (by omega)).mp c_1
    have h2 : j = G := by omega
    subst h2
    refine z_iload_n (i := 2) dX9_gameAt_42 rfl hl2 ?_
    refine z_iret dX9_gameAt_43 rfl ?_
    exact hQ
  · skip
    have h1 : ¬ G ≤ j := fun q => c_1 ((zle (by omega) (by omega)).mpr q)
    refine z_aload_n (i := 0) dX9_gameAt_12 rfl hl0 ?_
    refine z_iload_n (i := 3) dX9_gameAt_13 rfl hl3 ?_
    refine z_callV (st := []) (mc2 := 0) (ms2 := 0) zi9_256 zv_yX9_isThere (c9_isThere _ _ _ (by omega)) dX9_gameAt_14 (show (0 : Nat) < 35 by decide) rfl rfl rfl rfl (by decide) (by decide) (Nat.le_of_ble_eq_true rfl) (by decide) (by decide) (fun r h2 hq => ?_)
    obtain ⟨rfl, rfl⟩ := hq
    refine z_if_eq 34 dX9_gameAt_17 (by decide) (fun c_2 => ?_) (fun c_2 => ?_)
    · skip
      refine z_iload_n (i := 2) dX9_gameAt_34 rfl hl2 ?_
      refine z_istore_n (i := 2) dX9_gameAt_35 rfl (by decide) rfl ?_
      refine z_iinc dX9_gameAt_36 hl3 rfl ?_
      refine z_goto 4 dX9_gameAt_39 (by decide) ?_
      rw [zinc]
      refine ih (j + 1) (by omega) (by omega) _ hl0 hl1 ?_ rfl
      simp_all [mga, zb_0, va_up]
    · skip
      refine z_aload_n (i := 0) dX9_gameAt_20 rfl hl0 ?_
      refine z_gR zf9_128.g dX9_gameAt_21 (by decide) rfl rfl ?_
      refine z_iload_n (i := 3) dX9_gameAt_24 rfl hl3 ?_
      refine z_iald dX9_gameAt_25 (by decide) rfl (zvin (by omega) (by omega)) ?_
      rw [zcl (by omega)]
      refine z_iload_n (i := 1) dX9_gameAt_26 rfl hl1 ?_
      refine z_icmp_ne 34 dX9_gameAt_27 (by decide) (fun c_3 => ?_) (fun c_3 => ?_)
      · skip
        refine z_iload_n (i := 2) dX9_gameAt_34 rfl hl2 ?_
        refine z_istore_n (i := 2) dX9_gameAt_35 rfl (by decide) rfl ?_
        refine z_iinc dX9_gameAt_36 hl3 rfl ?_
        refine z_goto 4 dX9_gameAt_39 (by decide) ?_
        rw [zinc]
        refine ih (j + 1) (by omega) (by omega) _ hl0 hl1 ?_ rfl
        simp_all [mga, zb_0, va_up]
      · skip
        refine z_iload_n (i := 3) dX9_gameAt_30 rfl hl3 ?_
        refine z_goto 35 dX9_gameAt_31 (by decide) ?_
        refine z_istore_n (i := 2) dX9_gameAt_35 rfl (by decide) rfl ?_
        refine z_iinc dX9_gameAt_36 hl3 rfl ?_
        refine z_goto 4 dX9_gameAt_39 (by decide) ?_
        rw [zinc]
        refine ih (j + 1) (by omega) (by omega) _ hl0 hl1 ?_ rfl
        simp_all [mga, zb_0, va_up]
set_option maxHeartbeats 4000000 in
theorem c9_gameAt (I : Nat → Nat → Int32) (L : Nat → Nat → Int64) (G : Nat) (s : Int32) (hG : G ≤ 60) (h35 : I 0 35 = nI G) : Zm yX9_gameAt cX9_gameAt 4 (some .int) 1 40 0 0 [.ref 0, .int s] (mh I L) (mQ (some (.int (mga I s G))) I L) := by
  refine Zm_of (lg := false) (by decide) (fun _ => by simp [Value.category]) (fun _ => Nat.le_of_ble_eq_true rfl) ?_
  show Zf x9_gameAt 0 0 0 (zargs [.ref 0, .int s]) [] (mh I L) _
  refine z_iconst (v := (-1)) dX9_gameAt_0 (by decide) ?_
  refine z_istore_n (i := 2) dX9_gameAt_1 rfl (by decide) rfl ?_
  refine z_iconst (v := 0) dX9_gameAt_2 (by decide) ?_
  refine z_istore_n (i := 3) dX9_gameAt_3 rfl (by decide) rfl ?_
  exact l9_gameAt hG h35 ⟨rfl, rfl⟩ (G + 1) 0 (by omega) (by omega) _ rfl rfl rfl rfl
abbrev x9_suits : ZX := (RX9, cX9_suits, 5, (some .boolean), "suits", 2, 80, false)
set_option maxHeartbeats 4000000 in
theorem l9_suits {I : Nat → Nat → Int32} {L : Nat → Nat → Int64} {Q : Option Value → ZH → Prop} {G g S : Nat} (hG : G ≤ 60) (hg : g < G) (h35 : I 0 35 = nI G) (hQ : Q (some (.int (zb (mfr I g (nI S) G)))) (mh I L)) : ∀ (m j : Nat), G - j < m → j ≤ G → ∀ ls : Nat → Option Value, ls 0 = some (.ref 0) → ls 1 = some (.int (nI g)) → ls 2 = some (.int (nI S)) → ls 3 = some (.int (zb (mfr I g (nI S) j))) → ls 4 = some (.int (nI j)) → Zf x9_suits 0 0 33 ls [] (mh I L) Q := by
  intro m
  induction m with
  | zero => intro j h; omega
  | succ m ih =>
  intro j hm hj ls hl0 hl1 hl2 hl3 hl4
  refine z_iload dX9_suits_33 hl4 ?_
  refine z_aload_n (i := 0) dX9_suits_35 rfl hl0 ?_
  refine z_gI zf9_253.g dX9_suits_36 (by decide) rfl ?_
  rw [h35]
  refine z_icmp_ge 120 dX9_suits_39 (by decide) (fun c_1 => ?_) (fun c_1 => ?_)
  · skip
    have h1 := (zle (by omega) (by omega)).mp c_1
    have h2 : j = G := by omega
    subst h2
    refine z_iload_n (i := 3) dX9_suits_120 rfl hl3 ?_
    refine z_zret dX9_suits_121 rfl (zb_or _) ?_
    exact hQ
  · skip
    have h1 : ¬ G ≤ j := fun q => c_1 ((zle (by omega) (by omega)).mpr q)
    refine z_iload dX9_suits_42 hl4 ?_
    refine z_iload_n (i := 1) dX9_suits_44 rfl hl1 ?_
    skip
    refine z_icmp_eq 114 dX9_suits_45 (by decide) (fun c_2 => ?_) (fun c_2 => ?_)
    · skip
      refine z_iinc dX9_suits_114 hl4 rfl ?_
      refine z_goto 33 dX9_suits_117 (by decide) ?_
      rw [zinc]
      refine ih (j + 1) (by omega) (by omega) _ hl0 hl1 hl2 ?_ rfl
      simp_all [mfr, zb_0, va_up, zeq (show j ≤ 1000000 by omega) (show g ≤ 1000000 by omega), zb]
    · skip
      refine z_aload_n (i := 0) dX9_suits_48 rfl hl0 ?_
      refine z_iload dX9_suits_49 hl4 ?_
      refine z_callV (st := []) (mc2 := 0) (ms2 := 0) zi9_256 zv_yX9_isThere (c9_isThere _ _ _ (by omega)) dX9_suits_51 (show (0 : Nat) < 35 by decide) rfl rfl rfl rfl (by decide) (by decide) (Nat.le_of_ble_eq_true rfl) (by decide) (by decide) (fun r h2 hq => ?_)
      obtain ⟨rfl, rfl⟩ := hq
      refine z_if_eq 114 dX9_suits_54 (by decide) (fun c_3 => ?_) (fun c_3 => ?_)
      · skip
        refine z_iinc dX9_suits_114 hl4 rfl ?_
        refine z_goto 33 dX9_suits_117 (by decide) ?_
        rw [zinc]
        refine ih (j + 1) (by omega) (by omega) _ hl0 hl1 hl2 ?_ rfl
        simp_all [mfr, zb_0, va_up, zeq (show j ≤ 1000000 by omega) (show g ≤ 1000000 by omega), zb]
      · skip
        refine z_aload_n (i := 0) dX9_suits_57 rfl hl0 ?_
        refine z_gR zf9_128.g dX9_suits_58 (by decide) rfl rfl ?_
        refine z_iload dX9_suits_61 hl4 ?_
        refine z_iald dX9_suits_63 (by decide) rfl (zvin (by omega) (by omega)) ?_
        rw [zcl (by omega)]
        refine z_bipush (v := 24) dX9_suits_64 (by decide) ?_
        refine z_idiv dX9_suits_66 (by decide) ?_
        refine z_iload_n (i := 2) dX9_suits_67 rfl hl2 ?_
        refine z_bipush (v := 24) dX9_suits_68 (by decide) ?_
        refine z_idiv dX9_suits_70 (by decide) ?_
        refine z_icmp_ne 114 dX9_suits_71 (by decide) (fun c_4 => ?_) (fun c_4 => ?_)
        · skip
          refine z_iinc dX9_suits_114 hl4 rfl ?_
          refine z_goto 33 dX9_suits_117 (by decide) ?_
          rw [zinc]
          refine ih (j + 1) (by omega) (by omega) _ hl0 hl1 hl2 ?_ rfl
          simp_all [mfr, zb_0, va_up, zeq (show j ≤ 1000000 by omega) (show g ≤ 1000000 by omega), zb]
        · skip
          refine z_iload_n (i := 3) dX9_suits_74 rfl hl3 ?_
          refine z_if_eq 112 dX9_suits_75 (by decide) (fun c_5 => ?_) (fun c_5 => ?_)
          · skip
            refine z_iconst (v := 0) dX9_suits_112 (by decide) ?_
            refine z_istore_n (i := 3) dX9_suits_113 rfl (by decide) rfl ?_
            refine z_iinc dX9_suits_114 hl4 rfl ?_
            refine z_goto 33 dX9_suits_117 (by decide) ?_
            rw [zinc]
            refine ih (j + 1) (by omega) (by omega) _ hl0 hl1 hl2 ?_ rfl
            simp_all [mfr, zb_0, va_up, zeq (show j ≤ 1000000 by omega) (show g ≤ 1000000 by omega), zb]
          · skip
            refine z_aload_n (i := 0) dX9_suits_78 rfl hl0 ?_
            refine z_iload dX9_suits_79 hl4 ?_
            refine z_aload_n (i := 0) dX9_suits_81 rfl hl0 ?_
            refine z_gR zf9_107.g dX9_suits_82 (by decide) rfl rfl ?_
            refine z_iload_n (i := 1) dX9_suits_85 rfl hl1 ?_
            refine z_iald dX9_suits_86 (by decide) rfl (zvin (by omega) (by omega)) ?_
            rw [zcl (by omega)]
            refine z_callV (st := []) (mc2 := 0) (ms2 := 0) zi9_262 zv_yX9_hasClub (c9_hasClub _ _ _ _ (by omega)) dX9_suits_87 (show (0 : Nat) < 35 by decide) rfl rfl rfl rfl (by decide) (by decide) (Nat.le_of_ble_eq_true rfl) (by decide) (by decide) (fun r h2 hq => ?_)
            obtain ⟨rfl, rfl⟩ := hq
            refine z_if_ne 112 dX9_suits_90 (by decide) (fun c_6 => ?_) (fun c_6 => ?_)
            · skip
              refine z_iconst (v := 0) dX9_suits_112 (by decide) ?_
              refine z_istore_n (i := 3) dX9_suits_113 rfl (by decide) rfl ?_
              refine z_iinc dX9_suits_114 hl4 rfl ?_
              refine z_goto 33 dX9_suits_117 (by decide) ?_
              rw [zinc]
              refine ih (j + 1) (by omega) (by omega) _ hl0 hl1 hl2 ?_ rfl
              simp_all [mfr, zb_0, va_up, zeq (show j ≤ 1000000 by omega) (show g ≤ 1000000 by omega), zb]
            · skip
              refine z_aload_n (i := 0) dX9_suits_93 rfl hl0 ?_
              refine z_iload dX9_suits_94 hl4 ?_
              refine z_aload_n (i := 0) dX9_suits_96 rfl hl0 ?_
              refine z_gR zf9_110.g dX9_suits_97 (by decide) rfl rfl ?_
              refine z_iload_n (i := 1) dX9_suits_100 rfl hl1 ?_
              refine z_iald dX9_suits_101 (by decide) rfl (zvin (by omega) (by omega)) ?_
              rw [zcl (by omega)]
              refine z_callV (st := []) (mc2 := 0) (ms2 := 0) zi9_262 zv_yX9_hasClub (c9_hasClub _ _ _ _ (by omega)) dX9_suits_102 (show (0 : Nat) < 35 by decide) rfl rfl rfl rfl (by decide) (by decide) (Nat.le_of_ble_eq_true rfl) (by decide) (by decide) (fun r h2 hq => ?_)
              obtain ⟨rfl, rfl⟩ := hq
              refine z_if_ne 112 dX9_suits_105 (by decide) (fun c_7 => ?_) (fun c_7 => ?_)
              · skip
                refine z_iconst (v := 0) dX9_suits_112 (by decide) ?_
                refine z_istore_n (i := 3) dX9_suits_113 rfl (by decide) rfl ?_
                refine z_iinc dX9_suits_114 hl4 rfl ?_
                refine z_goto 33 dX9_suits_117 (by decide) ?_
                rw [zinc]
                refine ih (j + 1) (by omega) (by omega) _ hl0 hl1 hl2 ?_ rfl
                simp_all [mfr, zb_0, va_up, zeq (show j ≤ 1000000 by omega) (show g ≤ 1000000 by omega), zb]
              · skip
                refine z_iconst (v := 1) dX9_suits_108 (by decide) ?_
                refine z_goto 113 dX9_suits_109 (by decide) ?_
                refine z_istore_n (i := 3) dX9_suits_113 rfl (by decide) rfl ?_
                refine z_iinc dX9_suits_114 hl4 rfl ?_
                refine z_goto 33 dX9_suits_117 (by decide) ?_
                rw [zinc]
                refine ih (j + 1) (by omega) (by omega) _ hl0 hl1 hl2 ?_ rfl
                simp_all [mfr, zb_0, va_up, zeq (show j ≤ 1000000 by omega) (show g ≤ 1000000 by omega), zb]
set_option maxHeartbeats 4000000 in
theorem c9_suits (I : Nat → Nat → Int32) (L : Nat → Nat → Int64) (G g S : Nat) (hG : G ≤ 60) (hg : g < G) (hS : S ≤ 100000) (h35 : I 0 35 = nI G) : Zm yX9_suits cX9_suits 5 (some .boolean) 2 80 0 0 [.ref 0, .int (nI g), .int (nI S)] (mh I L) (mQ (some (.int (zb (msu I G g S)))) I L) := by
  refine Zm_of (lg := false) (by decide) (fun _ => by simp [Value.category]) (fun _ => Nat.le_of_ble_eq_true rfl) ?_
  show Zf x9_suits 0 0 0 (zargs [.ref 0, .int (nI g), .int (nI S)]) [] (mh I L) _
  refine z_aload_n (i := 0) dX9_suits_0 rfl rfl ?_
  refine z_gR zf9_80.g dX9_suits_1 (by decide) rfl rfl ?_
  refine z_iload_n (i := 2) dX9_suits_4 rfl rfl ?_
  refine z_bipush (v := 6) dX9_suits_5 (by decide) ?_
  refine z_irem dX9_suits_7 (by decide) ?_
  rw [zl6, zrem (by omega) (by omega) (by omega)]
  refine z_iald dX9_suits_8 (by decide) rfl (zvin (by omega) (by omega)) ?_
  rw [zcl (by omega)]
  refine z_aload_n (i := 0) dX9_suits_9 rfl rfl ?_
  refine z_gR zf9_113.g dX9_suits_10 (by decide) rfl rfl ?_
  refine z_iload_n (i := 1) dX9_suits_13 rfl rfl ?_
  refine z_iald dX9_suits_14 (by decide) rfl (zvin (by omega) (by omega)) ?_
  rw [zcl (by omega)]
  refine z_icmp_lt 26 dX9_suits_15 (by decide) (fun c_1 => ?_) (fun c_1 => ?_)
  · skip
    refine z_iconst (v := 0) dX9_suits_26 (by decide) ?_
    refine z_zret dX9_suits_27 rfl (by decide) ?_
    exact ⟨by first | (simp_all [msu, zb]; done) | (simp_all [msu, zb]; intro h; exact absurd h (Int32.not_lt.mpr (by assumption))), rfl⟩
  · skip
    refine z_aload_n (i := 0) dX9_suits_18 rfl rfl ?_
    refine z_iload_n (i := 2) dX9_suits_19 rfl rfl ?_
    refine z_callV (st := []) (mc2 := 0) (ms2 := 0) zi9_259 zv_yX9_gameAt (c9_gameAt _ _ _ _ hG h35) dX9_suits_20 (show (0 : Nat) < 35 by decide) rfl rfl rfl rfl (by decide) (by decide) (Nat.le_of_ble_eq_true rfl) (by decide) (by decide) (fun r h2 hq => ?_)
    obtain ⟨rfl, rfl⟩ := hq
    refine z_if_lt 28 dX9_suits_23 (by decide) (fun c_2 => ?_) (fun c_2 => ?_)
    · skip
      refine z_iconst (v := 1) dX9_suits_28 (by decide) ?_
      refine z_istore_n (i := 3) dX9_suits_29 rfl (by decide) rfl ?_
      refine z_iconst (v := 0) dX9_suits_30 (by decide) ?_
      refine z_istore (i := 4) dX9_suits_31 (by decide) rfl ?_
      refine l9_suits hG hg h35 ⟨?_, rfl⟩ (G + 1) 0 (by omega) (by omega) _ rfl rfl rfl rfl rfl
      simp_all [msu, zb]
    · skip
      refine z_iconst (v := 0) dX9_suits_26 (by decide) ?_
      refine z_zret dX9_suits_27 rfl (by decide) ?_
      exact ⟨by first | (simp_all [msu, zb]; done) | (simp_all [msu, zb]; intro h; exact absurd h (Int32.not_lt.mpr (by assumption))), rfl⟩
abbrev x9_lays : ZX := (RX9, cX9_lays, 3, none, "lays", 0, 0, false)
set_option maxHeartbeats 4000000 in
theorem c9_lays (I : Nat → Nat → Int32) (L : Nat → Nat → Int64) (g : Nat) (s : Int32) (hg : g < 60) : Zm yX9_lays cX9_lays 3 none 0 0 0 0 [.ref 0, .int (nI g), .int s] (mh I L) (mQ none (zu (zu I 31 g 1) 32 g s) L) := by
  refine Zm_of (lg := false) (by decide) (fun _ => by simp [Value.category]) (fun _ => Nat.le_of_ble_eq_true rfl) ?_
  show Zf x9_lays 0 0 0 (zargs [.ref 0, .int (nI g), .int s]) [] (mh I L) _
  refine z_aload_n (i := 0) dX9_lays_0 rfl rfl ?_
  refine z_gR zf9_125.g dX9_lays_1 (by decide) rfl rfl ?_
  refine z_iload_n (i := 1) dX9_lays_4 rfl rfl ?_
  refine z_iconst (v := 1) dX9_lays_5 (by decide) ?_
  refine z_iast dX9_lays_6 (by decide) rfl (zvin (by omega) (by omega)) ?_
  refine z_aload_n (i := 0) dX9_lays_7 rfl rfl ?_
  refine z_gR zf9_128.g dX9_lays_8 (by decide) rfl rfl ?_
  refine z_iload_n (i := 1) dX9_lays_11 rfl rfl ?_
  refine z_iload_n (i := 2) dX9_lays_12 rfl rfl ?_
  refine z_iast dX9_lays_13 (by decide) rfl (zvin (by omega) (by omega)) ?_
  refine z_vret dX9_lays_14 rfl ?_
  exact ⟨rfl, by rw [zcl (by omega)]⟩
