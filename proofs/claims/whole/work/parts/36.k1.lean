/-! the class: its own zone; first the turf -/
abbrev kQ (r : Option Value) (n : Nat) (K : Nat → Nat × Nat) (I : Nat → Nat → Int32) (L : Nat → Nat → Int64) (R : Nat → Nat → Option Nat) : Option Value → ZH → Prop := fun r2 h2 => r2 = r ∧ h2 = (n, K, I, L, R)
theorem kmI : Cond.initialized "java/lang/Math" ∈ zTB := zTB_of (by decide +kernel) rfl
theorem kl7_23 : Cond.methodLink RX7 23 Lib.Math.min.name ∈ zTB := zTB_of (by decide +kernel) rfl
theorem kl7_32 : Cond.methodLink RX7 32 Lib.Math.abs.name ∈ zTB := zTB_of (by decide +kernel) rfl
theorem kl7_36 : Cond.methodLink RX7 36 Lib.Math.max.name ∈ zTB := zTB_of (by decide +kernel) rfl
theorem kl0_22 : Cond.methodLink RX0 22 Lib.Math.max.name ∈ zTB := zTB_of (by decide +kernel) rfl
theorem ks_mmin : Cond.static Lib.Math.min.name ∈ zTB := zTB_of (by decide +kernel) rfl
theorem ks_mabs : Cond.static Lib.Math.abs.name ∈ zTB := zTB_of (by decide +kernel) rfl
theorem ks_mmax : Cond.static Lib.Math.max.name ∈ zTB := zTB_of (by decide +kernel) rfl
theorem kc_mmin : Cond.code Lib.Math.min.name Lib.Math.min.code 2 (some .int) ∈ zTB := zTB_of (by decide +kernel) rfl
theorem kc_mabs : Cond.code Lib.Math.abs.name Lib.Math.abs.code 1 (some .int) ∈ zTB := zTB_of (by decide +kernel) rfl
theorem kc_mmax : Cond.code Lib.Math.max.name Lib.Math.max.code 2 (some .int) ∈ zTB := zTB_of (by decide +kernel) rfl
theorem kst0 : Cond.fieldLink RX7 17 RX7 (if (0 : Nat) = 0 then "STANDING_0" else "STANDING_1") "[I" ∈ zTB := zTB_of (by decide +kernel) rfl
theorem kst1 : Cond.fieldLink RX7 20 RX7 (if (1 : Nat) = 0 then "STANDING_0" else "STANDING_1") "[I" ∈ zTB := zTB_of (by decide +kernel) rfl
/-- a turf at t, its cells at c -/
def kTf (n : Nat) (K : Nat → Nat × Nat) (R : Nat → Nat → Option Nat) (t c : Nat) : Prop := t < n ∧ c < n ∧ K t = (12, 0) ∧ K c = (0, 24) ∧ R t 0 = some c
theorem kTf.ne {n : Nat} {K : Nat → Nat × Nat} {R : Nat → Nat → Option Nat} {t c : Nat} (h : kTf n K R t c) : t ≠ c := fun e => by
  obtain ⟨-, -, h1, h2, -⟩ := h
  rw [e, h2] at h1
  exact absurd h1 (by decide)
abbrev x7_least : ZX := (RX7, cX7_least, 3, (some .int), "least", 1, 40, false)
set_option maxHeartbeats 4000000 in
theorem l7_least {n : Nat} {K : Nat → Nat × Nat} {I : Nat → Nat → Int32} {L : Nat → Nat → Int64} {R : Nat → Nat → Option Nat} {Q : Option Value → ZH → Prop} {t c : Nat} (hT : kTf n K R t c) (hQ : Q (some (.int (mleast (I c) 24))) (n, K, I, L, R)) : ∀ (m j : Nat), 24 - j < m → j ≤ 24 → ∀ ls : Nat → Option Value, ls 0 = some (.ref t) → ls 1 = some (.int (mleast (I c) j)) → ls 2 = some (.int (nI j)) → Zf x7_least 0 0 6 ls [] (n, K, I, L, R) Q := by
  intro m
  induction m with
  | zero => intro j h; omega
  | succ m ih =>
  intro j hm hj ls hl0 hl1 hl2
  obtain ⟨ha, hca, hk, hck, hr⟩ := id hT
  refine z_iload_n (i := 2) dX7_least_6 rfl hl2 ?_
  refine z_bipush (v := 24) dX7_least_7 (by decide) ?_
  rw [zl24]
  refine z_icmp_ge 29 dX7_least_9 (by decide) (fun c_1 => ?_) (fun c_1 => ?_)
  · skip
    refine z_iload_n (i := 1) dX7_least_29 rfl hl1 ?_
    refine z_iret dX7_least_30 rfl ?_
    have h1 := (zle (by omega) (by omega)).mp c_1
    have h2 : j = 24 := by omega
    subst h2
    exact hQ
  · skip
    have h1 : ¬ 24 ≤ j := fun q => c_1 ((zle (by omega) (by omega)).mpr q)
    refine z_iload_n (i := 1) dX7_least_12 rfl hl1 ?_
    refine z_aload_n (i := 0) dX7_least_13 rfl hl0 ?_
    refine z_gR zf7_9.g dX7_least_14 ha hk hr ?_
    refine z_iload_n (i := 2) dX7_least_17 rfl hl2 ?_
    refine z_iald dX7_least_18 hca hck (zvin (by omega) (by omega)) ?_
    rw [zcl (by omega)]
    refine z_mmin dX7_least_19 kl7_23 ks_mmin kmI kc_mmin (Nat.le_of_ble_eq_true rfl) (Nat.le_of_ble_eq_true rfl) (Nat.le_of_ble_eq_true rfl) ?_
    refine z_istore_n (i := 1) dX7_least_22 rfl (by decide) rfl ?_
    refine z_iinc dX7_least_23 hl2 rfl ?_
    refine z_goto 6 dX7_least_26 (by decide) ?_
    rw [zinc]
    exact ih (j + 1) (by omega) (by omega) _ hl0 rfl rfl
set_option maxHeartbeats 4000000 in
theorem c7_least (n : Nat) (K : Nat → Nat × Nat) (I : Nat → Nat → Int32) (L : Nat → Nat → Int64) (R : Nat → Nat → Option Nat) (t c : Nat) (hT : kTf n K R t c) : Zm yX7_least cX7_least 3 (some .int) 1 40 0 0 [.ref t] ((n, K, I, L, R)) (kQ (some (.int (mleast (I c) 24))) n K I L R) := by
  refine Zm_of (lg := false) (by decide) (fun _ => by simp [Value.category]) (fun _ => Nat.le_of_ble_eq_true rfl) ?_
  show Zf x7_least 0 0 0 (zargs [.ref t]) [] ((n, K, I, L, R)) _
  refine z_sipush (v := 1000) dX7_least_0 (by decide) ?_
  refine z_istore_n (i := 1) dX7_least_3 rfl (by decide) rfl ?_
  refine z_iconst (v := 0) dX7_least_4 (by decide) ?_
  refine z_istore_n (i := 2) dX7_least_5 rfl (by decide) rfl ?_
  exact l7_least hT ⟨rfl, rfl⟩ 25 0 (by omega) (by omega) _ rfl rfl rfl
abbrev x7_mean : ZX := (RX7, cX7_mean, 3, (some .int), "mean", 1, 40, false)
set_option maxHeartbeats 4000000 in
theorem l7_mean {n : Nat} {K : Nat → Nat × Nat} {I : Nat → Nat → Int32} {L : Nat → Nat → Int64} {R : Nat → Nat → Option Nat} {Q : Option Value → ZH → Prop} {t c : Nat} (hT : kTf n K R t c) (hQ : Q (some (.int (msum (I c) 24 / 24))) (n, K, I, L, R)) : ∀ (m j : Nat), 24 - j < m → j ≤ 24 → ∀ ls : Nat → Option Value, ls 0 = some (.ref t) → ls 1 = some (.int (msum (I c) j)) → ls 2 = some (.int (nI j)) → Zf x7_mean 0 0 4 ls [] (n, K, I, L, R) Q := by
  intro m
  induction m with
  | zero => intro j h; omega
  | succ m ih =>
  intro j hm hj ls hl0 hl1 hl2
  obtain ⟨ha, hca, hk, hck, hr⟩ := id hT
  refine z_iload_n (i := 2) dX7_mean_4 rfl hl2 ?_
  refine z_bipush (v := 24) dX7_mean_5 (by decide) ?_
  rw [zl24]
  refine z_icmp_ge 25 dX7_mean_7 (by decide) (fun c_1 => ?_) (fun c_1 => ?_)
  · skip
    refine z_iload_n (i := 1) dX7_mean_25 rfl hl1 ?_
    refine z_bipush (v := 24) dX7_mean_26 (by decide) ?_
    refine z_idiv dX7_mean_28 (by decide) ?_
    refine z_iret dX7_mean_29 rfl ?_
    have h1 := (zle (by omega) (by omega)).mp c_1
    have h2 : j = 24 := by omega
    subst h2
    exact hQ
  · skip
    have h1 : ¬ 24 ≤ j := fun q => c_1 ((zle (by omega) (by omega)).mpr q)
    refine z_iload_n (i := 1) dX7_mean_10 rfl hl1 ?_
    refine z_aload_n (i := 0) dX7_mean_11 rfl hl0 ?_
    refine z_gR zf7_9.g dX7_mean_12 ha hk hr ?_
    refine z_iload_n (i := 2) dX7_mean_15 rfl hl2 ?_
    refine z_iald dX7_mean_16 hca hck (zvin (by omega) (by omega)) ?_
    rw [zcl (by omega)]
    refine z_iadd dX7_mean_17 ?_
    refine z_istore_n (i := 1) dX7_mean_18 rfl (by decide) rfl ?_
    refine z_iinc dX7_mean_19 hl2 rfl ?_
    refine z_goto 4 dX7_mean_22 (by decide) ?_
    rw [zinc]
    exact ih (j + 1) (by omega) (by omega) _ hl0 rfl rfl
set_option maxHeartbeats 4000000 in
theorem c7_mean (n : Nat) (K : Nat → Nat × Nat) (I : Nat → Nat → Int32) (L : Nat → Nat → Int64) (R : Nat → Nat → Option Nat) (t c : Nat) (hT : kTf n K R t c) : Zm yX7_mean cX7_mean 3 (some .int) 1 40 0 0 [.ref t] ((n, K, I, L, R)) (kQ (some (.int (msum (I c) 24 / 24))) n K I L R) := by
  refine Zm_of (lg := false) (by decide) (fun _ => by simp [Value.category]) (fun _ => Nat.le_of_ble_eq_true rfl) ?_
  show Zf x7_mean 0 0 0 (zargs [.ref t]) [] ((n, K, I, L, R)) _
  refine z_iconst (v := 0) dX7_mean_0 (by decide) ?_
  refine z_istore_n (i := 1) dX7_mean_1 rfl (by decide) rfl ?_
  refine z_iconst (v := 0) dX7_mean_2 (by decide) ?_
  refine z_istore_n (i := 2) dX7_mean_3 rfl (by decide) rfl ?_
  exact l7_mean hT ⟨rfl, rfl⟩ 25 0 (by omega) (by omega) _ rfl rfl rfl
def tww (I : Nat → Nat → Int32) (t c : Nat) (age wet : Int32) (k : Nat) : Int32 := if mwf age wet (mshare (I t 1) (nI (k / 6)) (nI (k % 6))) ≤ I c k then mwf age wet (mshare (I t 1) (nI (k / 6)) (nI (k % 6))) else I c k
def twI (I : Nat → Nat → Int32) (t c : Nat) (age wet : Int32) (m : Nat) : Nat → Nat → Int32 := fun a j => if a = c ∧ j < m then I c j - tww I t c age wet j else if a = t ∧ j = 2 then I t 2 + msum (tww I t c age wet) m else I a j
theorem twI_0 (I : Nat → Nat → Int32) (t c : Nat) (age wet : Int32) : twI I t c age wet 0 = I := by
  funext a j
  unfold twI
  rw [if_neg (by omega)]
  by_cases h : a = t ∧ j = 2
  · rw [if_pos h, h.1, h.2]
    exact Int32.add_zero _
  · rw [if_neg h]
theorem twI_c (I : Nat → Nat → Int32) {t c : Nat} (h : t ≠ c) (age wet : Int32) (m : Nat) : twI I t c age wet m c m = I c m := by
  unfold twI
  rw [if_neg (by omega), if_neg (by omega)]
theorem twI_1 (I : Nat → Nat → Int32) {t c : Nat} (h : t ≠ c) (age wet : Int32) (m : Nat) : twI I t c age wet m t 1 = I t 1 := by
  unfold twI
  rw [if_neg (by omega), if_neg (by omega)]
theorem twI_2 (I : Nat → Nat → Int32) {t c : Nat} (h : t ≠ c) (age wet : Int32) (m : Nat) : twI I t c age wet m t 2 = I t 2 + msum (tww I t c age wet) m := by
  unfold twI
  rw [if_neg (by omega), if_pos ⟨rfl, rfl⟩]
theorem twI_s (I : Nat → Nat → Int32) {t c : Nat} (h : t ≠ c) (age wet : Int32) (m : Nat) : zu (zu (twI I t c age wet m) c m (I c m - tww I t c age wet m)) t 2 (I t 2 + msum (tww I t c age wet) m + tww I t c age wet m) = twI I t c age wet (m + 1) := by
  funext a j
  rw [zu_apply, zu_apply]
  unfold twI
  by_cases h1 : a = t ∧ j = 2
  · rw [if_pos h1, if_neg (by omega), if_pos h1]
    simp only [msum, Int32.add_assoc]
  · rw [if_neg h1]
    by_cases h2 : a = c ∧ j = m
    · rw [if_pos h2, if_pos (by omega), h2.2]
    · rw [if_neg h2]
      by_cases h3 : a = c ∧ j < m
      · rw [if_pos h3, if_pos (by omega)]
      · rw [if_neg h3, if_neg h1, if_neg (by omega), if_neg h1]
theorem kS0 : ∀ j, j < 24 → (if (0 : Nat) = 0 then zS0 j else zS1 j) = mshare 0 (nI (j / 6)) (nI (j % 6)) := by decide +kernel
theorem kS1 : ∀ j, j < 24 → (if (1 : Nat) = 0 then zS0 j else zS1 j) = mshare 1 (nI (j / 6)) (nI (j % 6)) := by decide +kernel
theorem mshare_n {how : Int32} (h : ¬ how = 0) (r c : Int32) : mshare how r c = mshare 1 r c := by
  unfold mshare
  rw [if_neg h, if_neg (show ¬ (1 : Int32) = 0 by decide)]
abbrev x7_wear : ZX := (RX7, cX7_wear, 7, none, "wear", 1, 40, false)
set_option maxHeartbeats 4000000 in
theorem l7_wear {n : Nat} {K : Nat → Nat × Nat} {I : Nat → Nat → Int32} {L : Nat → Nat → Int64} {R : Nat → Nat → Option Nat} {Q : Option Value → ZH → Prop} {t c : Nat} {age wet : Int32} (hT : kTf n K R t c) (hQ : Q none (n, K, twI I t c age wet 24, L, R)) : ∀ (m j : Nat), 24 - j < m → j ≤ 24 → ∀ (J : Nat → Nat → Int32) (ls : Nat → Option Value), J = twI I t c age wet j → ls 0 = some (.ref t) → ls 1 = some (.int age) → ls 2 = some (.int wet) → ls 3 = some (.int (nI j)) → Zf x7_wear 0 0 2 ls [] (n, K, J, L, R) Q := by
  intro m
  induction m with
  | zero => intro j h; omega
  | succ m ih =>
  intro j hm hj J ls hJ hl0 hl1 hl2 hl3
  subst hJ
  obtain ⟨ha, hca, hk, hck, hr⟩ := id hT
  have hne := hT.ne
  refine z_iload_n (i := 3) dX7_wear_2 rfl hl3 ?_
  refine z_bipush (v := 24) dX7_wear_3 (by decide) ?_
  rw [zl24]
  refine z_icmp_ge 89 dX7_wear_5 (by decide) (fun c_1 => ?_) (fun c_1 => ?_)
  · skip
    refine z_vret dX7_wear_89 rfl ?_
    have h1 := (zle (by omega) (by omega)).mp c_1
    have h2 : j = 24 := by omega
    subst h2
    exact hQ
  · skip
    have h1 : ¬ 24 ≤ j := fun q => c_1 ((zle (by omega) (by omega)).mpr q)
    refine z_aload_n (i := 0) dX7_wear_8 rfl hl0 ?_
    refine z_gI zf7_13.g dX7_wear_9 ha hk ?_
    rw [twI_1 I hne]
    refine z_if_ne 23 dX7_wear_12 (by decide) (fun c_2 => ?_) (fun c_2 => ?_)
    · skip
      refine z_gets (k := 1) (by decide) dX7_wear_23 kst1 ?_
      refine z_iload_n (i := 3) dX7_wear_26 rfl hl3 ?_
      refine z_tald (k := 1) (by decide) dX7_wear_27 (zvin (by omega) (by omega)) ?_
      refine z_topi (fun w hw => ?_)
      have e2 : w = mshare (I t 1) (nI (j / 6)) (nI (j % 6)) := by rw [hw, zcl (by omega), kS1 j (by omega), mshare_n c_2]
      subst e2
      refine z_istore (i := 4) dX7_wear_28 (by decide) rfl ?_
      refine z_iconst (v := 4) dX7_wear_30 (by decide) ?_
      refine z_iconst (v := 2) dX7_wear_31 (by decide) ?_
      refine z_iload_n (i := 1) dX7_wear_32 rfl hl1 ?_
      refine z_imul dX7_wear_33 ?_
      refine z_iadd dX7_wear_34 ?_
      refine z_iload dX7_wear_35 rfl ?_
      refine z_imul dX7_wear_37 ?_
      refine z_bipush (v := 10) dX7_wear_38 (by decide) ?_
      refine z_iload_n (i := 2) dX7_wear_40 rfl hl2 ?_
      refine z_iadd dX7_wear_41 ?_
      refine z_imul dX7_wear_42 ?_
      refine z_bipush (v := 10) dX7_wear_43 (by decide) ?_
      refine z_idiv dX7_wear_45 (by decide) ?_
      refine z_istore (i := 5) dX7_wear_46 (by decide) rfl ?_
      refine z_iload dX7_wear_48 rfl ?_
      refine z_aload_n (i := 0) dX7_wear_50 rfl hl0 ?_
      refine z_gR zf7_9.g dX7_wear_51 ha hk hr ?_
      refine z_iload_n (i := 3) dX7_wear_54 rfl hl3 ?_
      refine z_iald dX7_wear_55 hca hck (zvin (by omega) (by omega)) ?_
      rw [zcl (by omega), twI_c I hne]
      refine z_mmin dX7_wear_56 kl7_23 ks_mmin kmI kc_mmin (Nat.le_of_ble_eq_true rfl) (Nat.le_of_ble_eq_true rfl) (Nat.le_of_ble_eq_true rfl) ?_
      refine z_topi (fun w hw => ?_)
      have e3 : w = tww I t c age wet j := by
        rw [hw]
        unfold tww
        show (if I c j < mwf age wet (mshare (I t 1) (nI (j / 6)) (nI (j % 6))) then I c j else mwf age wet (mshare (I t 1) (nI (j / 6)) (nI (j % 6)))) = _
        by_cases hlt : I c j < mwf age wet (mshare (I t 1) (nI (j / 6)) (nI (j % 6)))
        · rw [if_pos hlt, if_neg (fun q => absurd hlt (Int32.not_lt.mpr q))]
        · rw [if_neg hlt, if_pos (Int32.not_lt.mp hlt)]
      clear hw
      subst e3
      refine z_istore (i := 6) dX7_wear_59 (by decide) rfl ?_
      refine z_aload_n (i := 0) dX7_wear_61 rfl hl0 ?_
      refine z_gR zf7_9.g dX7_wear_62 ha hk hr ?_
      refine z_iload_n (i := 3) dX7_wear_65 rfl hl3 ?_
      refine z_dup2 dX7_wear_66 rfl rfl ?_
      refine z_iald dX7_wear_67 hca hck (zvin (by omega) (by omega)) ?_
      rw [zcl (by omega), twI_c I hne]
      refine z_iload dX7_wear_68 rfl ?_
      refine z_isub dX7_wear_70 ?_
      refine z_iast dX7_wear_71 hca hck (zvin (by omega) (by omega)) ?_
      simp only [zcl (show j ≤ 100000 by omega)]
      refine z_aload_n (i := 0) dX7_wear_72 rfl hl0 ?_
      refine z_dup dX7_wear_73 rfl ?_
      refine z_gI zf7_29.g dX7_wear_74 ha hk ?_
      rw [show zu (twI I t c age wet j) c j (I c j - tww I t c age wet j) t 2 = I t 2 + msum (tww I t c age wet) j by rw [zu_ne _ _ _ hne, twI_2 I hne]]
      refine z_iload dX7_wear_77 rfl ?_
      refine z_iadd dX7_wear_79 ?_
      refine z_putI zf7_29 dX7_wear_80 (fun h => by cases h) ha hk ?_
      refine z_iinc dX7_wear_83 hl3 rfl ?_
      refine z_goto 2 dX7_wear_86 (by decide) ?_
      rw [zinc]
      exact ih (j + 1) (by omega) (by omega) _ _ (twI_s I hne age wet j) hl0 hl1 hl2 rfl
    · skip
      refine z_gets (k := 0) (by decide) dX7_wear_15 kst0 ?_
      refine z_iload_n (i := 3) dX7_wear_18 rfl hl3 ?_
      refine z_tald (k := 0) (by decide) dX7_wear_19 (zvin (by omega) (by omega)) ?_
      refine z_goto 28 dX7_wear_20 (by decide) ?_
      refine z_topi (fun w hw => ?_)
      have e2 : w = mshare (I t 1) (nI (j / 6)) (nI (j % 6)) := by rw [hw, zcl (by omega), kS0 j (by omega), c_2]
      subst e2
      refine z_istore (i := 4) dX7_wear_28 (by decide) rfl ?_
      refine z_iconst (v := 4) dX7_wear_30 (by decide) ?_
      refine z_iconst (v := 2) dX7_wear_31 (by decide) ?_
      refine z_iload_n (i := 1) dX7_wear_32 rfl hl1 ?_
      refine z_imul dX7_wear_33 ?_
      refine z_iadd dX7_wear_34 ?_
      refine z_iload dX7_wear_35 rfl ?_
      refine z_imul dX7_wear_37 ?_
      refine z_bipush (v := 10) dX7_wear_38 (by decide) ?_
      refine z_iload_n (i := 2) dX7_wear_40 rfl hl2 ?_
      refine z_iadd dX7_wear_41 ?_
      refine z_imul dX7_wear_42 ?_
      refine z_bipush (v := 10) dX7_wear_43 (by decide) ?_
      refine z_idiv dX7_wear_45 (by decide) ?_
      refine z_istore (i := 5) dX7_wear_46 (by decide) rfl ?_
      refine z_iload dX7_wear_48 rfl ?_
      refine z_aload_n (i := 0) dX7_wear_50 rfl hl0 ?_
      refine z_gR zf7_9.g dX7_wear_51 ha hk hr ?_
      refine z_iload_n (i := 3) dX7_wear_54 rfl hl3 ?_
      refine z_iald dX7_wear_55 hca hck (zvin (by omega) (by omega)) ?_
      rw [zcl (by omega), twI_c I hne]
      refine z_mmin dX7_wear_56 kl7_23 ks_mmin kmI kc_mmin (Nat.le_of_ble_eq_true rfl) (Nat.le_of_ble_eq_true rfl) (Nat.le_of_ble_eq_true rfl) ?_
      refine z_topi (fun w hw => ?_)
      have e3 : w = tww I t c age wet j := by
        rw [hw]
        unfold tww
        show (if I c j < mwf age wet (mshare (I t 1) (nI (j / 6)) (nI (j % 6))) then I c j else mwf age wet (mshare (I t 1) (nI (j / 6)) (nI (j % 6)))) = _
        by_cases hlt : I c j < mwf age wet (mshare (I t 1) (nI (j / 6)) (nI (j % 6)))
        · rw [if_pos hlt, if_neg (fun q => absurd hlt (Int32.not_lt.mpr q))]
        · rw [if_neg hlt, if_pos (Int32.not_lt.mp hlt)]
      clear hw
      subst e3
      refine z_istore (i := 6) dX7_wear_59 (by decide) rfl ?_
      refine z_aload_n (i := 0) dX7_wear_61 rfl hl0 ?_
      refine z_gR zf7_9.g dX7_wear_62 ha hk hr ?_
      refine z_iload_n (i := 3) dX7_wear_65 rfl hl3 ?_
      refine z_dup2 dX7_wear_66 rfl rfl ?_
      refine z_iald dX7_wear_67 hca hck (zvin (by omega) (by omega)) ?_
      rw [zcl (by omega), twI_c I hne]
      refine z_iload dX7_wear_68 rfl ?_
      refine z_isub dX7_wear_70 ?_
      refine z_iast dX7_wear_71 hca hck (zvin (by omega) (by omega)) ?_
      simp only [zcl (show j ≤ 100000 by omega)]
      refine z_aload_n (i := 0) dX7_wear_72 rfl hl0 ?_
      refine z_dup dX7_wear_73 rfl ?_
      refine z_gI zf7_29.g dX7_wear_74 ha hk ?_
      rw [show zu (twI I t c age wet j) c j (I c j - tww I t c age wet j) t 2 = I t 2 + msum (tww I t c age wet) j by rw [zu_ne _ _ _ hne, twI_2 I hne]]
      refine z_iload dX7_wear_77 rfl ?_
      refine z_iadd dX7_wear_79 ?_
      refine z_putI zf7_29 dX7_wear_80 (fun h => by cases h) ha hk ?_
      refine z_iinc dX7_wear_83 hl3 rfl ?_
      refine z_goto 2 dX7_wear_86 (by decide) ?_
      rw [zinc]
      exact ih (j + 1) (by omega) (by omega) _ _ (twI_s I hne age wet j) hl0 hl1 hl2 rfl
set_option maxHeartbeats 4000000 in
theorem c7_wear (n : Nat) (K : Nat → Nat × Nat) (I : Nat → Nat → Int32) (L : Nat → Nat → Int64) (R : Nat → Nat → Option Nat) (t c : Nat) (age wet : Int32) (hT : kTf n K R t c) : Zm yX7_wear cX7_wear 7 none 1 40 0 0 [.ref t, .int age, .int wet] ((n, K, I, L, R)) (kQ none n K (twI I t c age wet 24) L R) := by
  refine Zm_of (lg := false) (by decide) (fun _ => by simp [Value.category]) (fun _ => Nat.le_of_ble_eq_true rfl) ?_
  show Zf x7_wear 0 0 0 (zargs [.ref t, .int age, .int wet]) [] ((n, K, I, L, R)) _
  refine z_iconst (v := 0) dX7_wear_0 (by decide) ?_
  refine z_istore_n (i := 3) dX7_wear_1 rfl (by decide) rfl ?_
  exact l7_wear hT ⟨rfl, rfl⟩ 25 0 (by omega) (by omega) _ _ (twI_0 I t c age wet).symm rfl rfl rfl rfl
def tdr (wet : Int32) : Int32 := if wet < 9 then 0 else 10
def tgr (warm wet : Int32) : Int32 := warm * (10 - 2 * (if 0 ≤ wet - 5 then wet - 5 else 0 - (wet - 5)))
def tlf (dr x : Int32) : Int32 := if 0 < x - dr then x - dr else 0
def tg1 (dr gr x : Int32) : Int32 := tlf dr x + (1000 - tlf dr x) * gr / 2000
def tgI (I : Nat → Nat → Int32) (c : Nat) (dr gr : Int32) (m : Nat) : Nat → Nat → Int32 := fun a j => if a = c ∧ j < m then tg1 dr gr (I c j) else I a j
theorem tgI_0 (I : Nat → Nat → Int32) (c : Nat) (dr gr : Int32) : tgI I c dr gr 0 = I := by
  funext a j
  unfold tgI
  rw [if_neg (by omega)]
theorem tgI_c (I : Nat → Nat → Int32) (c : Nat) (dr gr : Int32) (m : Nat) : tgI I c dr gr m c m = I c m := by
  unfold tgI
  rw [if_neg (by omega)]
theorem tgI_s (I : Nat → Nat → Int32) (c : Nat) (dr gr : Int32) (m : Nat) : zu (tgI I c dr gr m) c m (tg1 dr gr (I c m)) = tgI I c dr gr (m + 1) := by
  funext a j
  rw [zu_apply]
  unfold tgI
  by_cases h2 : a = c ∧ j = m
  · rw [if_pos h2, if_pos (by omega), h2.2]
  · rw [if_neg h2]
    by_cases h3 : a = c ∧ j < m
    · rw [if_pos h3, if_pos (by omega)]
    · rw [if_neg h3, if_neg (by omega)]
abbrev x7_grow : ZX := (RX7, cX7_grow, 7, none, "grow", 1, 40, false)
set_option maxHeartbeats 4000000 in
theorem l7_grow {n : Nat} {K : Nat → Nat × Nat} {I : Nat → Nat → Int32} {L : Nat → Nat → Int64} {R : Nat → Nat → Option Nat} {Q : Option Value → ZH → Prop} {t c : Nat} {dr gr : Int32} (hT : kTf n K R t c) (hQ : Q none (n, K, tgI I c dr gr 24, L, R)) : ∀ (m j : Nat), 24 - j < m → j ≤ 24 → ∀ (J : Nat → Nat → Int32) (ls : Nat → Option Value), J = tgI I c dr gr j → ls 0 = some (.ref t) → ls 3 = some (.int dr) → ls 4 = some (.int gr) → ls 5 = some (.int (nI j)) → Zf x7_grow 0 0 31 ls [] (n, K, J, L, R) Q := by
  intro m
  induction m with
  | zero => intro j h; omega
  | succ m ih =>
  intro j hm hj J ls hJ hl0 hl3 hl4 hl5
  subst hJ
  obtain ⟨ha, hca, hk, hck, hr⟩ := id hT
  refine z_iload dX7_grow_31 hl5 ?_
  refine z_bipush (v := 24) dX7_grow_33 (by decide) ?_
  rw [zl24]
  refine z_icmp_ge 82 dX7_grow_35 (by decide) (fun c_1 => ?_) (fun c_1 => ?_)
  · skip
    refine z_vret dX7_grow_82 rfl ?_
    have h1 := (zle (by omega) (by omega)).mp c_1
    have h2 : j = 24 := by omega
    subst h2
    exact hQ
  · skip
    have h1 : ¬ 24 ≤ j := fun q => c_1 ((zle (by omega) (by omega)).mpr q)
    refine z_iconst (v := 0) dX7_grow_38 (by decide) ?_
    refine z_aload_n (i := 0) dX7_grow_39 rfl hl0 ?_
    refine z_gR zf7_9.g dX7_grow_40 ha hk hr ?_
    refine z_iload dX7_grow_43 hl5 ?_
    refine z_iald dX7_grow_45 hca hck (zvin (by omega) (by omega)) ?_
    rw [zcl (by omega), tgI_c]
    refine z_iload_n (i := 3) dX7_grow_46 rfl hl3 ?_
    refine z_isub dX7_grow_47 ?_
    refine z_mmax dX7_grow_48 kl7_36 ks_mmax kmI kc_mmax (Nat.le_of_ble_eq_true rfl) (Nat.le_of_ble_eq_true rfl) (Nat.le_of_ble_eq_true rfl) ?_
    refine z_topi (fun w hw => ?_)
    have e3 : w = tlf dr (I c j) := by
      rw [hw]
      unfold tlf
      rfl
    clear hw
    subst e3
    refine z_istore (i := 6) dX7_grow_51 (by decide) rfl ?_
    refine z_aload_n (i := 0) dX7_grow_53 rfl hl0 ?_
    refine z_gR zf7_9.g dX7_grow_54 ha hk hr ?_
    refine z_iload dX7_grow_57 hl5 ?_
    refine z_iload dX7_grow_59 rfl ?_
    refine z_sipush (v := 1000) dX7_grow_61 (by decide) ?_
    refine z_iload dX7_grow_64 rfl ?_
    refine z_isub dX7_grow_66 ?_
    refine z_iload dX7_grow_67 hl4 ?_
    refine z_imul dX7_grow_69 ?_
    refine z_sipush (v := 2000) dX7_grow_70 (by decide) ?_
    refine z_idiv dX7_grow_73 (by decide) ?_
    refine z_iadd dX7_grow_74 ?_
    refine z_iast dX7_grow_75 hca hck (zvin (by omega) (by omega)) ?_
    simp only [zcl (show j ≤ 100000 by omega)]
    refine z_iinc dX7_grow_76 hl5 rfl ?_
    refine z_goto 31 dX7_grow_79 (by decide) ?_
    rw [zinc]
    exact ih (j + 1) (by omega) (by omega) _ _ (tgI_s I c dr gr j) hl0 hl3 hl4 rfl
set_option maxHeartbeats 4000000 in
theorem c7_grow (n : Nat) (K : Nat → Nat × Nat) (I : Nat → Nat → Int32) (L : Nat → Nat → Int64) (R : Nat → Nat → Option Nat) (t c : Nat) (warm wet : Int32) (hT : kTf n K R t c) : Zm yX7_grow cX7_grow 7 none 1 40 0 0 [.ref t, .int warm, .int wet] ((n, K, I, L, R)) (kQ none n K (tgI I c (tdr wet) (tgr warm wet) 24) L R) := by
  refine Zm_of (lg := false) (by decide) (fun _ => by simp [Value.category]) (fun _ => Nat.le_of_ble_eq_true rfl) ?_
  show Zf x7_grow 0 0 0 (zargs [.ref t, .int warm, .int wet]) [] ((n, K, I, L, R)) _
  refine z_iload_n (i := 2) dX7_grow_0 rfl rfl ?_
  refine z_bipush (v := 9) dX7_grow_1 (by decide) ?_
  refine z_icmp_lt 11 dX7_grow_3 (by decide) (fun c_1 => ?_) (fun c_1 => ?_)
  · skip
    refine z_iconst (v := 0) dX7_grow_11 (by decide) ?_
    refine z_topi (fun w hw => ?_)
    have e3 : w = tdr wet := by rw [hw]; unfold tdr; rw [if_pos c_1]
    clear hw
    subst e3
    refine z_istore_n (i := 3) dX7_grow_12 rfl (by decide) rfl ?_
    refine z_iload_n (i := 1) dX7_grow_13 rfl rfl ?_
    refine z_bipush (v := 10) dX7_grow_14 (by decide) ?_
    refine z_iconst (v := 2) dX7_grow_16 (by decide) ?_
    refine z_iload_n (i := 2) dX7_grow_17 rfl rfl ?_
    refine z_iconst (v := 5) dX7_grow_18 (by decide) ?_
    refine z_isub dX7_grow_19 ?_
    refine z_mabs dX7_grow_20 kl7_32 ks_mabs kmI kc_mabs (Nat.le_of_ble_eq_true rfl) (Nat.le_of_ble_eq_true rfl) (Nat.le_of_ble_eq_true rfl) ?_
    refine z_imul dX7_grow_23 ?_
    refine z_isub dX7_grow_24 ?_
    refine z_imul dX7_grow_25 ?_
    refine z_istore (i := 4) dX7_grow_26 (by decide) rfl ?_
    refine z_iconst (v := 0) dX7_grow_28 (by decide) ?_
    refine z_istore (i := 5) dX7_grow_29 (by decide) rfl ?_
    exact l7_grow hT ⟨rfl, rfl⟩ 25 0 (by omega) (by omega) _ _ (tgI_0 I c _ _).symm rfl rfl rfl rfl
  · skip
    refine z_bipush (v := 10) dX7_grow_6 (by decide) ?_
    refine z_goto 12 dX7_grow_8 (by decide) ?_
    refine z_topi (fun w hw => ?_)
    have e3 : w = tdr wet := by rw [hw]; unfold tdr; rw [if_neg c_1]
    clear hw
    subst e3
    refine z_istore_n (i := 3) dX7_grow_12 rfl (by decide) rfl ?_
    refine z_iload_n (i := 1) dX7_grow_13 rfl rfl ?_
    refine z_bipush (v := 10) dX7_grow_14 (by decide) ?_
    refine z_iconst (v := 2) dX7_grow_16 (by decide) ?_
    refine z_iload_n (i := 2) dX7_grow_17 rfl rfl ?_
    refine z_iconst (v := 5) dX7_grow_18 (by decide) ?_
    refine z_isub dX7_grow_19 ?_
    refine z_mabs dX7_grow_20 kl7_32 ks_mabs kmI kc_mabs (Nat.le_of_ble_eq_true rfl) (Nat.le_of_ble_eq_true rfl) (Nat.le_of_ble_eq_true rfl) ?_
    refine z_imul dX7_grow_23 ?_
    refine z_isub dX7_grow_24 ?_
    refine z_imul dX7_grow_25 ?_
    refine z_istore (i := 4) dX7_grow_26 (by decide) rfl ?_
    refine z_iconst (v := 0) dX7_grow_28 (by decide) ?_
    refine z_istore (i := 5) dX7_grow_29 (by decide) rfl ?_
    exact l7_grow hT ⟨rfl, rfl⟩ 25 0 (by omega) (by omega) _ _ (tgI_0 I c _ _).symm rfl rfl rfl rfl
