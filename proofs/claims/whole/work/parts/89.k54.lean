/-! a new reference -/
def mKt (N : Nat) : Nat → Nat × Nat := fun a => if a < N then mKl.getD a (0, 0) else (0, 0)
theorem mKt_s {N M : Nat} {z : Nat × Nat} (hM : N + 1 = M) (hz : mKl.getD N (0, 0) = z) : va_up (mKt N) N z = mKt M := by
  subst hM
  subst hz
  funext a
  unfold va_up mKt
  by_cases h : a = N
  · rw [if_pos h, if_pos (by omega), h]
  · rw [if_neg h]
    by_cases h2 : a < N
    · rw [if_pos h2, if_pos (by omega)]
    · rw [if_neg h2, if_neg (by omega)]
theorem mKt_e : mKt 35 = mK := by
  funext a
  unfold mKt mK
  by_cases h : a < 35
  · rw [if_pos h]
  · rw [if_neg h]
    have h1 : mKl.length = 35 := rfl
    rw [List.getD_eq_getElem?_getD, List.getElem?_eq_none (by omega)]
    rfl
def mRt (N : Nat) : Nat → Nat → Option Nat := fun a k => (mR a k).bind (fun b => if b < N then some b else none)
theorem mR_inj : ∀ i, i < 46 → ∀ j, j < 46 → mRl.getD i none = mRl.getD j none → mRl.getD i none ≠ none → i = j := by decide +kernel
theorem mR_lt : ∀ i, i < 46 → ∀ b, mRl.getD i none = some b → b < 35 := by
  intro i hi b hb
  have h : ∀ i, i < 46 → (mRl.getD i none).all (fun b => decide (b < 35)) = true := by decide +kernel
  have h1 := h i hi
  rw [hb] at h1
  simpa using h1
theorem mR_out {k : Nat} (h : ¬ k < 46) : mRl.getD k none = none := by
  have h1 : mRl.length = 46 := rfl
  rw [List.getD_eq_getElem?_getD, List.getElem?_eq_none (by omega)]
  rfl
theorem mRt_0 : mRt 1 = kZR := by
  funext a k
  unfold mRt mR
  by_cases h : a = 0
  · rw [if_pos h]
    by_cases hk : k < 46
    · have h1 : ∀ k, k < 46 → ((mRl.getD k none).bind (fun b => if b < 1 then some b else none)) = none := by decide +kernel
      exact h1 k hk
    · rw [mR_out hk]
      rfl
  · rw [if_neg h]
    rfl
theorem mRt_e : mRt 35 = mR := by
  funext a k
  unfold mRt mR
  by_cases h : a = 0
  · rw [if_pos h]
    by_cases hk : k < 46
    · cases hb : mRl.getD k none with
      | none => rfl
      | some b =>
        show (if b < 35 then some b else none) = some b
        rw [if_pos (mR_lt k hk b hb)]
    · rw [mR_out hk]
      rfl
  · rw [if_neg h]
    rfl
theorem mRt_s {N M j : Nat} (hM : N + 1 = M) (hj : j < 46) (hz : mRl.getD j none = some N) : zu (mRt N) 0 j (some N) = mRt M := by
  subst hM
  funext a k
  rw [zu_apply]
  by_cases h : a = 0 ∧ k = j
  · rw [if_pos h]
    obtain ⟨rfl, rfl⟩ := h
    unfold mRt mR
    rw [if_pos rfl, hz]
    show some N = if N < N + 1 then some N else none
    rw [if_pos (by omega)]
  · rw [if_neg h]
    unfold mRt mR
    by_cases ha : a = 0
    · rw [if_pos ha]
      by_cases hk : k < 46
      · cases hb : mRl.getD k none with
        | none => rfl
        | some b =>
          show (if b < N then some b else none) = if b < N + 1 then some b else none
          by_cases hN : b = N
          · exact absurd ⟨ha, mR_inj k hk j hj (by rw [hb, hz, hN]) (by rw [hb]; simp)⟩ h
          · by_cases h2 : b < N
            · rw [if_pos h2, if_pos (by omega)]
            · rw [if_neg h2, if_neg (by omega)]
      · rw [mR_out hk]
        rfl
    · rw [if_neg ha]
      rfl
theorem mHs {N M : Nat} {z : Nat × Nat} {L : Nat → Nat → Int64} (hM : N + 1 = M) (hz : mKl.getD N (0, 0) = z) (hN : N ≠ 0) (hL : L N = fun _ => 0) : ((N + 1, va_up (mKt N) N z, va_up kZI N (fun _ => 0), va_up L N (fun _ => 0), va_up (mRt N) N (fun _ => none)) : ZH) = (M, mKt M, kZI, L, mRt N) := by
  have hR : mRt N N = fun _ => none := by
    funext k
    unfold mRt mR
    rw [if_neg hN]
    rfl
  rw [mKt_s hM hz, va_upz (f := kZI) rfl, va_upz hL, va_upz hR, hM]
theorem mHs2 {N M j : Nat} {L : Nat → Nat → Int64} (hM : N + 1 = M) (hj : j < 46) (hz : mRl.getD j none = some N) : ((M, mKt M, kZI, L, zu (mRt N) 0 j (some N)) : ZH) = (M, mKt M, kZI, L, mRt M) := by rw [mRt_s hM hj hz]
theorem mHe {L : Nat → Nat → Int64} : ((35, mKt 35, kZI, L, mRt 35) : ZH) = mh kZI L := by rw [mKt_e, mRt_e]
theorem ko9_3 : Cond.methodLink RX9 1 Lib.objectInit ∈ zTB := zTB_of (by decide +kernel) rfl
theorem kaJ : Cond.arrayClass .long ∈ zTB := zTB_of (by decide +kernel) rfl
abbrev x9_init : ZX := (RX9, cX9_init, 1, none, "<init>", 2, 80, false)
abbrev mH0 : ZH := (1, mKt 1, kZI, kZL, kZR)
set_option maxHeartbeats 4000000 in
theorem c9_init : Zm yX9_init cX9_init 1 none 2 80 34 6699 [.ref 0] mH0 (fun r h => r = none ∧ ∃ L', h = mh kZI L' ∧ ∀ w, w < 12 → L' 5 w = mwords w) := by
  refine Zm_of (lg := false) (by decide) (fun _ => by simp [Value.category]) (fun _ => Nat.le_of_ble_eq_true rfl) ?_
  show Zf x9_init 34 6699 0 (zargs [.ref 0]) [] (1, mKt 1, kZI, kZL, kZR) _
  generalize hQ0 : ((fun r h => r = none ∧ ∃ L', h = mh kZI L' ∧ ∀ w, w < 12 → L' 5 w = mwords w) : Option Value → ZH → Prop) = Q0
  rw [← mRt_0]
  refine z_aload_n (i := 0) dX9_init_0 rfl rfl ?_
  refine z_objInit dX9_init_1 ko9_3 koI koC (Nat.le_of_ble_eq_true rfl) (Nat.le_of_ble_eq_true rfl) (Nat.le_of_ble_eq_true rfl) ?_
  refine z_aload_n (i := 0) dX9_init_4 rfl rfl ?_
  refine z_sipush (v := 600) dX9_init_5 (by decide) ?_
  refine z_newI (mc2 := 33) (ms2 := 6099) (N := 600) kaI dX9_init_8 (by decide) (by decide) (by omega) (by omega) (by omega) ?_
  refine z_hp (mHs (N := 1) (M := 2) (L := kZL) rfl rfl (by decide) rfl) ?_
  refine z_putR zf9_7 dX9_init_10 (fun _ => rfl) (by decide) rfl ?_
  refine z_hp (mHs2 (N := 1) (M := 2) (j := 1) rfl (by decide) rfl) ?_
  refine z_aload_n (i := 0) dX9_init_13 rfl rfl ?_
  refine z_sipush (v := 602) dX9_init_14 (by decide) ?_
  refine z_newI (mc2 := 32) (ms2 := 5497) (N := 602) kaI dX9_init_17 (by decide) (by decide) (by omega) (by omega) (by omega) ?_
  refine z_hp (mHs (N := 2) (M := 3) (L := kZL) rfl rfl (by decide) rfl) ?_
  refine z_putR zf9_13 dX9_init_19 (fun _ => rfl) (by decide) rfl ?_
  refine z_hp (mHs2 (N := 2) (M := 3) (j := 4) rfl (by decide) rfl) ?_
  refine z_aload_n (i := 0) dX9_init_22 rfl rfl ?_
  refine z_sipush (v := 602) dX9_init_23 (by decide) ?_
  refine z_newI (mc2 := 31) (ms2 := 4895) (N := 602) kaI dX9_init_26 (by decide) (by decide) (by omega) (by omega) (by omega) ?_
  refine z_hp (mHs (N := 3) (M := 4) (L := kZL) rfl rfl (by decide) rfl) ?_
  refine z_putR zf9_16 dX9_init_28 (fun _ => rfl) (by decide) rfl ?_
  refine z_hp (mHs2 (N := 3) (M := 4) (j := 5) rfl (by decide) rfl) ?_
  refine z_aload_n (i := 0) dX9_init_31 rfl rfl ?_
  refine z_sipush (v := 602) dX9_init_32 (by decide) ?_
  refine z_newJ (mc2 := 30) (ms2 := 4293) (N := 602) kaJ dX9_init_35 (by decide) (by decide) (by omega) (by omega) (by omega) ?_
  refine z_hp (mHs (N := 4) (M := 5) (L := kZL) rfl rfl (by decide) rfl) ?_
  refine z_putR zf9_19 dX9_init_37 (fun _ => rfl) (by decide) rfl ?_
  refine z_hp (mHs2 (N := 4) (M := 5) (j := 6) rfl (by decide) rfl) ?_
  refine z_aload_n (i := 0) dX9_init_40 rfl rfl ?_
  refine z_bipush (v := 12) dX9_init_41 (by decide) ?_
  refine z_newJ (mc2 := 29) (ms2 := 4281) (N := 12) kaJ dX9_init_43 (by decide) (by decide) (by omega) (by omega) (by omega) ?_
  refine z_hp (mHs (N := 5) (M := 6) (L := kZL) rfl rfl (by decide) rfl) ?_
  refine z_dup dX9_init_45 rfl ?_
  refine z_iconst (v := 0) dX9_init_46 (by decide) ?_
  refine z_ldc2 (v := 974156) dX9_init_47 (zTB_of (by decide +kernel) rfl) ?_
  refine z_last (a := 5) (z := 12) dX9_init_50 (by decide) rfl (by unfold vp_in; decide) ?_
  show Zf x9_init 29 4281 51 _ _ (6, mKt 6, kZI, zu (kZL) 5 0 974156, mRt 5) _
  refine z_dup dX9_init_51 rfl ?_
  refine z_iconst (v := 1) dX9_init_52 (by decide) ?_
  refine z_ldc2 (v := 1825) dX9_init_53 (zTB_of (by decide +kernel) rfl) ?_
  refine z_last (a := 5) (z := 12) dX9_init_56 (by decide) rfl (by unfold vp_in; decide) ?_
  show Zf x9_init 29 4281 57 _ _ (6, mKt 6, kZI, zu (zu (kZL) 5 0 974156) 5 1 1825, mRt 5) _
  refine z_dup dX9_init_57 rfl ?_
  refine z_iconst (v := 2) dX9_init_58 (by decide) ?_
  refine z_ldc2 (v := 1176170) dX9_init_59 (zTB_of (by decide +kernel) rfl) ?_
  refine z_last (a := 5) (z := 12) dX9_init_62 (by decide) rfl (by unfold vp_in; decide) ?_
  show Zf x9_init 29 4281 63 _ _ (6, mKt 6, kZI, zu (zu (zu (kZL) 5 0 974156) 5 1 1825) 5 2 1176170, mRt 5) _
  refine z_dup dX9_init_63 rfl ?_
  refine z_iconst (v := 3) dX9_init_64 (by decide) ?_
  refine z_ldc2 (v := 1891) dX9_init_65 (zTB_of (by decide +kernel) rfl) ?_
  refine z_last (a := 5) (z := 12) dX9_init_68 (by decide) rfl (by unfold vp_in; decide) ?_
  show Zf x9_init 29 4281 69 _ _ (6, mKt 6, kZI, zu (zu (zu (zu (kZL) 5 0 974156) 5 1 1825) 5 2 1176170) 5 3 1891, mRt 5) _
  refine z_dup dX9_init_69 rfl ?_
  refine z_iconst (v := 4) dX9_init_70 (by decide) ?_
  refine z_ldc2 (v := 31692) dX9_init_71 (zTB_of (by decide +kernel) rfl) ?_
  refine z_last (a := 5) (z := 12) dX9_init_74 (by decide) rfl (by unfold vp_in; decide) ?_
  show Zf x9_init 29 4281 75 _ _ (6, mKt 6, kZI, zu (zu (zu (zu (zu (kZL) 5 0 974156) 5 1 1825) 5 2 1176170) 5 3 1891) 5 4 31692, mRt 5) _
  refine z_dup dX9_init_75 rfl ?_
  refine z_iconst (v := 5) dX9_init_76 (by decide) ?_
  refine z_ldc2 (v := 1167067) dX9_init_77 (zTB_of (by decide +kernel) rfl) ?_
  refine z_last (a := 5) (z := 12) dX9_init_80 (by decide) rfl (by unfold vp_in; decide) ?_
  show Zf x9_init 29 4281 81 _ _ (6, mKt 6, kZI, zu (zu (zu (zu (zu (zu (kZL) 5 0 974156) 5 1 1825) 5 2 1176170) 5 3 1891) 5 4 31692) 5 5 1167067, mRt 5) _
  refine z_dup dX9_init_81 rfl ?_
  refine z_bipush (v := 6) dX9_init_82 (by decide) ?_
  refine z_ldc2 (v := 22745289) dX9_init_84 (zTB_of (by decide +kernel) rfl) ?_
  refine z_last (a := 5) (z := 12) dX9_init_87 (by decide) rfl (by unfold vp_in; decide) ?_
  show Zf x9_init 29 4281 88 _ _ (6, mKt 6, kZI, zu (zu (zu (zu (zu (zu (zu (kZL) 5 0 974156) 5 1 1825) 5 2 1176170) 5 3 1891) 5 4 31692) 5 5 1167067) 5 6 22745289, mRt 5) _
  refine z_dup dX9_init_88 rfl ?_
  refine z_bipush (v := 7) dX9_init_89 (by decide) ?_
  refine z_ldc2 (v := 665385) dX9_init_91 (zTB_of (by decide +kernel) rfl) ?_
  refine z_last (a := 5) (z := 12) dX9_init_94 (by decide) rfl (by unfold vp_in; decide) ?_
  show Zf x9_init 29 4281 95 _ _ (6, mKt 6, kZI, zu (zu (zu (zu (zu (zu (zu (zu (kZL) 5 0 974156) 5 1 1825) 5 2 1176170) 5 3 1891) 5 4 31692) 5 5 1167067) 5 6 22745289) 5 7 665385, mRt 5) _
  refine z_dup dX9_init_95 rfl ?_
  refine z_bipush (v := 8) dX9_init_96 (by decide) ?_
  refine z_ldc2 (v := 1132078311) dX9_init_98 (zTB_of (by decide +kernel) rfl) ?_
  refine z_last (a := 5) (z := 12) dX9_init_101 (by decide) rfl (by unfold vp_in; decide) ?_
  show Zf x9_init 29 4281 102 _ _ (6, mKt 6, kZI, zu (zu (zu (zu (zu (zu (zu (zu (zu (kZL) 5 0 974156) 5 1 1825) 5 2 1176170) 5 3 1891) 5 4 31692) 5 5 1167067) 5 6 22745289) 5 7 665385) 5 8 1132078311, mRt 5) _
  refine z_dup dX9_init_102 rfl ?_
  refine z_bipush (v := 9) dX9_init_103 (by decide) ?_
  refine z_ldc2 (v := 5538) dX9_init_105 (zTB_of (by decide +kernel) rfl) ?_
  refine z_last (a := 5) (z := 12) dX9_init_108 (by decide) rfl (by unfold vp_in; decide) ?_
  show Zf x9_init 29 4281 109 _ _ (6, mKt 6, kZI, zu (zu (zu (zu (zu (zu (zu (zu (zu (zu (kZL) 5 0 974156) 5 1 1825) 5 2 1176170) 5 3 1891) 5 4 31692) 5 5 1167067) 5 6 22745289) 5 7 665385) 5 8 1132078311) 5 9 5538, mRt 5) _
  refine z_dup dX9_init_109 rfl ?_
  refine z_bipush (v := 10) dX9_init_110 (by decide) ?_
  refine z_ldc2 (v := 426554) dX9_init_112 (zTB_of (by decide +kernel) rfl) ?_
  refine z_last (a := 5) (z := 12) dX9_init_115 (by decide) rfl (by unfold vp_in; decide) ?_
  show Zf x9_init 29 4281 116 _ _ (6, mKt 6, kZI, zu (zu (zu (zu (zu (zu (zu (zu (zu (zu (zu (kZL) 5 0 974156) 5 1 1825) 5 2 1176170) 5 3 1891) 5 4 31692) 5 5 1167067) 5 6 22745289) 5 7 665385) 5 8 1132078311) 5 9 5538) 5 10 426554, mRt 5) _
  refine z_dup dX9_init_116 rfl ?_
  refine z_bipush (v := 11) dX9_init_117 (by decide) ?_
  refine z_ldc2 (v := 1633) dX9_init_119 (zTB_of (by decide +kernel) rfl) ?_
  refine z_last (a := 5) (z := 12) dX9_init_122 (by decide) rfl (by unfold vp_in; decide) ?_
  show Zf x9_init 29 4281 123 _ _ (6, mKt 6, kZI, zu (zu (zu (zu (zu (zu (zu (zu (zu (zu (zu (zu (kZL) 5 0 974156) 5 1 1825) 5 2 1176170) 5 3 1891) 5 4 31692) 5 5 1167067) 5 6 22745289) 5 7 665385) 5 8 1132078311) 5 9 5538) 5 10 426554) 5 11 1633, mRt 5) _
  refine z_putR zf9_47 dX9_init_123 (fun _ => rfl) (by decide) rfl ?_
  refine z_hp (mHs2 (N := 5) (M := 6) (j := 9) rfl (by decide) rfl) ?_
  refine z_aload_n (i := 0) dX9_init_126 rfl rfl ?_
  refine z_iconst (v := 2) dX9_init_127 (by decide) ?_
  refine z_newI (mc2 := 28) (ms2 := 4279) (N := 2) kaI dX9_init_128 (by decide) (by decide) (by omega) (by omega) (by omega) ?_
  refine z_hp (mHs (N := 6) (M := 7) (L := zu (zu (zu (zu (zu (zu (zu (zu (zu (zu (zu (zu (kZL) 5 0 974156) 5 1 1825) 5 2 1176170) 5 3 1891) 5 4 31692) 5 5 1167067) 5 6 22745289) 5 7 665385) 5 8 1132078311) 5 9 5538) 5 10 426554) 5 11 1633) rfl rfl (by decide) rfl) ?_
  refine z_putR zf9_50 dX9_init_130 (fun _ => rfl) (by decide) rfl ?_
  refine z_hp (mHs2 (N := 6) (M := 7) (j := 10) rfl (by decide) rfl) ?_
  refine z_aload_n (i := 0) dX9_init_133 rfl rfl ?_
  refine z_bipush (v := 32) dX9_init_134 (by decide) ?_
  refine z_newI (mc2 := 27) (ms2 := 4247) (N := 32) kaI dX9_init_136 (by decide) (by decide) (by omega) (by omega) (by omega) ?_
  refine z_hp (mHs (N := 7) (M := 8) (L := zu (zu (zu (zu (zu (zu (zu (zu (zu (zu (zu (zu (kZL) 5 0 974156) 5 1 1825) 5 2 1176170) 5 3 1891) 5 4 31692) 5 5 1167067) 5 6 22745289) 5 7 665385) 5 8 1132078311) 5 9 5538) 5 10 426554) 5 11 1633) rfl rfl (by decide) rfl) ?_
  refine z_putR zf9_53 dX9_init_138 (fun _ => rfl) (by decide) rfl ?_
  refine z_hp (mHs2 (N := 7) (M := 8) (j := 11) rfl (by decide) rfl) ?_
  refine z_aload_n (i := 0) dX9_init_141 rfl rfl ?_
  refine z_bipush (v := 32) dX9_init_142 (by decide) ?_
  refine z_newI (mc2 := 26) (ms2 := 4215) (N := 32) kaI dX9_init_144 (by decide) (by decide) (by omega) (by omega) (by omega) ?_
  refine z_hp (mHs (N := 8) (M := 9) (L := zu (zu (zu (zu (zu (zu (zu (zu (zu (zu (zu (zu (kZL) 5 0 974156) 5 1 1825) 5 2 1176170) 5 3 1891) 5 4 31692) 5 5 1167067) 5 6 22745289) 5 7 665385) 5 8 1132078311) 5 9 5538) 5 10 426554) 5 11 1633) rfl rfl (by decide) rfl) ?_
  refine z_putR zf9_56 dX9_init_146 (fun _ => rfl) (by decide) rfl ?_
  refine z_hp (mHs2 (N := 8) (M := 9) (j := 12) rfl (by decide) rfl) ?_
  refine z_aload_n (i := 0) dX9_init_149 rfl rfl ?_
  refine z_sipush (v := 1320) dX9_init_150 (by decide) ?_
  refine z_newI (mc2 := 25) (ms2 := 2895) (N := 1320) kaI dX9_init_153 (by decide) (by decide) (by omega) (by omega) (by omega) ?_
  refine z_hp (mHs (N := 9) (M := 10) (L := zu (zu (zu (zu (zu (zu (zu (zu (zu (zu (zu (zu (kZL) 5 0 974156) 5 1 1825) 5 2 1176170) 5 3 1891) 5 4 31692) 5 5 1167067) 5 6 22745289) 5 7 665385) 5 8 1132078311) 5 9 5538) 5 10 426554) 5 11 1633) rfl rfl (by decide) rfl) ?_
  refine z_putR zf9_59 dX9_init_155 (fun _ => rfl) (by decide) rfl ?_
  refine z_hp (mHs2 (N := 9) (M := 10) (j := 13) rfl (by decide) rfl) ?_
  refine z_aload_n (i := 0) dX9_init_158 rfl rfl ?_
  refine z_sipush (v := 1320) dX9_init_159 (by decide) ?_
  refine z_newI (mc2 := 24) (ms2 := 1575) (N := 1320) kaI dX9_init_162 (by decide) (by decide) (by omega) (by omega) (by omega) ?_
  refine z_hp (mHs (N := 10) (M := 11) (L := zu (zu (zu (zu (zu (zu (zu (zu (zu (zu (zu (zu (kZL) 5 0 974156) 5 1 1825) 5 2 1176170) 5 3 1891) 5 4 31692) 5 5 1167067) 5 6 22745289) 5 7 665385) 5 8 1132078311) 5 9 5538) 5 10 426554) 5 11 1633) rfl rfl (by decide) rfl) ?_
  refine z_putR zf9_62 dX9_init_164 (fun _ => rfl) (by decide) rfl ?_
  refine z_hp (mHs2 (N := 10) (M := 11) (j := 14) rfl (by decide) rfl) ?_
  refine z_aload_n (i := 0) dX9_init_167 rfl rfl ?_
  refine z_bipush (v := 7) dX9_init_168 (by decide) ?_
  refine z_newI (mc2 := 23) (ms2 := 1568) (N := 7) kaI dX9_init_170 (by decide) (by decide) (by omega) (by omega) (by omega) ?_
  refine z_hp (mHs (N := 11) (M := 12) (L := zu (zu (zu (zu (zu (zu (zu (zu (zu (zu (zu (zu (kZL) 5 0 974156) 5 1 1825) 5 2 1176170) 5 3 1891) 5 4 31692) 5 5 1167067) 5 6 22745289) 5 7 665385) 5 8 1132078311) 5 9 5538) 5 10 426554) 5 11 1633) rfl rfl (by decide) rfl) ?_
  refine z_putR zf9_65 dX9_init_172 (fun _ => rfl) (by decide) rfl ?_
  refine z_hp (mHs2 (N := 11) (M := 12) (j := 19) rfl (by decide) rfl) ?_
  refine z_aload_n (i := 0) dX9_init_175 rfl rfl ?_
  refine z_bipush (v := 7) dX9_init_176 (by decide) ?_
  refine z_newI (mc2 := 22) (ms2 := 1561) (N := 7) kaI dX9_init_178 (by decide) (by decide) (by omega) (by omega) (by omega) ?_
  refine z_hp (mHs (N := 12) (M := 13) (L := zu (zu (zu (zu (zu (zu (zu (zu (zu (zu (zu (zu (kZL) 5 0 974156) 5 1 1825) 5 2 1176170) 5 3 1891) 5 4 31692) 5 5 1167067) 5 6 22745289) 5 7 665385) 5 8 1132078311) 5 9 5538) 5 10 426554) 5 11 1633) rfl rfl (by decide) rfl) ?_
  refine z_putR zf9_68 dX9_init_180 (fun _ => rfl) (by decide) rfl ?_
  refine z_hp (mHs2 (N := 12) (M := 13) (j := 20) rfl (by decide) rfl) ?_
  refine z_aload_n (i := 0) dX9_init_183 rfl rfl ?_
  refine z_bipush (v := 7) dX9_init_184 (by decide) ?_
  refine z_newI (mc2 := 21) (ms2 := 1554) (N := 7) kaI dX9_init_186 (by decide) (by decide) (by omega) (by omega) (by omega) ?_
  refine z_hp (mHs (N := 13) (M := 14) (L := zu (zu (zu (zu (zu (zu (zu (zu (zu (zu (zu (zu (kZL) 5 0 974156) 5 1 1825) 5 2 1176170) 5 3 1891) 5 4 31692) 5 5 1167067) 5 6 22745289) 5 7 665385) 5 8 1132078311) 5 9 5538) 5 10 426554) 5 11 1633) rfl rfl (by decide) rfl) ?_
  refine z_putR zf9_71 dX9_init_188 (fun _ => rfl) (by decide) rfl ?_
  refine z_hp (mHs2 (N := 13) (M := 14) (j := 21) rfl (by decide) rfl) ?_
  refine z_aload_n (i := 0) dX9_init_191 rfl rfl ?_
  refine z_bipush (v := 8) dX9_init_192 (by decide) ?_
  refine z_newI (mc2 := 20) (ms2 := 1546) (N := 8) kaI dX9_init_194 (by decide) (by decide) (by omega) (by omega) (by omega) ?_
  refine z_hp (mHs (N := 14) (M := 15) (L := zu (zu (zu (zu (zu (zu (zu (zu (zu (zu (zu (zu (kZL) 5 0 974156) 5 1 1825) 5 2 1176170) 5 3 1891) 5 4 31692) 5 5 1167067) 5 6 22745289) 5 7 665385) 5 8 1132078311) 5 9 5538) 5 10 426554) 5 11 1633) rfl rfl (by decide) rfl) ?_
  refine z_putR zf9_74 dX9_init_196 (fun _ => rfl) (by decide) rfl ?_
  refine z_hp (mHs2 (N := 14) (M := 15) (j := 22) rfl (by decide) rfl) ?_
  refine z_aload_n (i := 0) dX9_init_199 rfl rfl ?_
  refine z_sipush (v := 660) dX9_init_200 (by decide) ?_
  refine z_newI (mc2 := 19) (ms2 := 886) (N := 660) kaI dX9_init_203 (by decide) (by decide) (by omega) (by omega) (by omega) ?_
  refine z_hp (mHs (N := 15) (M := 16) (L := zu (zu (zu (zu (zu (zu (zu (zu (zu (zu (zu (zu (kZL) 5 0 974156) 5 1 1825) 5 2 1176170) 5 3 1891) 5 4 31692) 5 5 1167067) 5 6 22745289) 5 7 665385) 5 8 1132078311) 5 9 5538) 5 10 426554) 5 11 1633) rfl rfl (by decide) rfl) ?_
  refine z_putR zf9_77 dX9_init_205 (fun _ => rfl) (by decide) rfl ?_
  refine z_hp (mHs2 (N := 15) (M := 16) (j := 23) rfl (by decide) rfl) ?_
  refine z_aload_n (i := 0) dX9_init_208 rfl rfl ?_
  refine z_bipush (v := 6) dX9_init_209 (by decide) ?_
  refine z_newI (mc2 := 18) (ms2 := 880) (N := 6) kaI dX9_init_211 (by decide) (by decide) (by omega) (by omega) (by omega) ?_
  refine z_hp (mHs (N := 16) (M := 17) (L := zu (zu (zu (zu (zu (zu (zu (zu (zu (zu (zu (zu (kZL) 5 0 974156) 5 1 1825) 5 2 1176170) 5 3 1891) 5 4 31692) 5 5 1167067) 5 6 22745289) 5 7 665385) 5 8 1132078311) 5 9 5538) 5 10 426554) 5 11 1633) rfl rfl (by decide) rfl) ?_
  refine z_putR zf9_80 dX9_init_213 (fun _ => rfl) (by decide) rfl ?_
  refine z_hp (mHs2 (N := 16) (M := 17) (j := 25) rfl (by decide) rfl) ?_
  refine z_aload_n (i := 0) dX9_init_216 rfl rfl ?_
  refine z_bipush (v := 6) dX9_init_217 (by decide) ?_
  refine z_newI (mc2 := 17) (ms2 := 874) (N := 6) kaI dX9_init_219 (by decide) (by decide) (by omega) (by omega) (by omega) ?_
  refine z_hp (mHs (N := 17) (M := 18) (L := zu (zu (zu (zu (zu (zu (zu (zu (zu (zu (zu (zu (kZL) 5 0 974156) 5 1 1825) 5 2 1176170) 5 3 1891) 5 4 31692) 5 5 1167067) 5 6 22745289) 5 7 665385) 5 8 1132078311) 5 9 5538) 5 10 426554) 5 11 1633) rfl rfl (by decide) rfl) ?_
  refine z_putR zf9_83 dX9_init_221 (fun _ => rfl) (by decide) rfl ?_
  refine z_hp (mHs2 (N := 17) (M := 18) (j := 26) rfl (by decide) rfl) ?_
  refine z_aload_n (i := 0) dX9_init_224 rfl rfl ?_
  refine z_sipush (v := 144) dX9_init_225 (by decide) ?_
  refine z_newI (mc2 := 16) (ms2 := 730) (N := 144) kaI dX9_init_228 (by decide) (by decide) (by omega) (by omega) (by omega) ?_
  refine z_hp (mHs (N := 18) (M := 19) (L := zu (zu (zu (zu (zu (zu (zu (zu (zu (zu (zu (zu (kZL) 5 0 974156) 5 1 1825) 5 2 1176170) 5 3 1891) 5 4 31692) 5 5 1167067) 5 6 22745289) 5 7 665385) 5 8 1132078311) 5 9 5538) 5 10 426554) 5 11 1633) rfl rfl (by decide) rfl) ?_
  refine z_putR zf9_86 dX9_init_230 (fun _ => rfl) (by decide) rfl ?_
  refine z_hp (mHs2 (N := 18) (M := 19) (j := 27) rfl (by decide) rfl) ?_
  refine z_aload_n (i := 0) dX9_init_233 rfl rfl ?_
  refine z_sipush (v := 144) dX9_init_234 (by decide) ?_
  refine z_newI (mc2 := 15) (ms2 := 586) (N := 144) kaI dX9_init_237 (by decide) (by decide) (by omega) (by omega) (by omega) ?_
  refine z_hp (mHs (N := 19) (M := 20) (L := zu (zu (zu (zu (zu (zu (zu (zu (zu (zu (zu (zu (kZL) 5 0 974156) 5 1 1825) 5 2 1176170) 5 3 1891) 5 4 31692) 5 5 1167067) 5 6 22745289) 5 7 665385) 5 8 1132078311) 5 9 5538) 5 10 426554) 5 11 1633) rfl rfl (by decide) rfl) ?_
  refine z_putR zf9_89 dX9_init_239 (fun _ => rfl) (by decide) rfl ?_
  refine z_hp (mHs2 (N := 19) (M := 20) (j := 28) rfl (by decide) rfl) ?_
  refine z_aload_n (i := 0) dX9_init_242 rfl rfl ?_
  refine z_bipush (v := 6) dX9_init_243 (by decide) ?_
  refine z_newI (mc2 := 14) (ms2 := 580) (N := 6) kaI dX9_init_245 (by decide) (by decide) (by omega) (by omega) (by omega) ?_
  refine z_hp (mHs (N := 20) (M := 21) (L := zu (zu (zu (zu (zu (zu (zu (zu (zu (zu (zu (zu (kZL) 5 0 974156) 5 1 1825) 5 2 1176170) 5 3 1891) 5 4 31692) 5 5 1167067) 5 6 22745289) 5 7 665385) 5 8 1132078311) 5 9 5538) 5 10 426554) 5 11 1633) rfl rfl (by decide) rfl) ?_
  refine z_putR zf9_92 dX9_init_247 (fun _ => rfl) (by decide) rfl ?_
  refine z_hp (mHs2 (N := 20) (M := 21) (j := 29) rfl (by decide) rfl) ?_
  refine z_aload_n (i := 0) dX9_init_250 rfl rfl ?_
  refine z_bipush (v := 6) dX9_init_251 (by decide) ?_
  refine z_newI (mc2 := 13) (ms2 := 574) (N := 6) kaI dX9_init_253 (by decide) (by decide) (by omega) (by omega) (by omega) ?_
  refine z_hp (mHs (N := 21) (M := 22) (L := zu (zu (zu (zu (zu (zu (zu (zu (zu (zu (zu (zu (kZL) 5 0 974156) 5 1 1825) 5 2 1176170) 5 3 1891) 5 4 31692) 5 5 1167067) 5 6 22745289) 5 7 665385) 5 8 1132078311) 5 9 5538) 5 10 426554) 5 11 1633) rfl rfl (by decide) rfl) ?_
  refine z_putR zf9_95 dX9_init_255 (fun _ => rfl) (by decide) rfl ?_
  refine z_hp (mHs2 (N := 21) (M := 22) (j := 30) rfl (by decide) rfl) ?_
  refine z_aload_n (i := 0) dX9_init_258 rfl rfl ?_
  refine z_bipush (v := 6) dX9_init_259 (by decide) ?_
  refine z_newI (mc2 := 12) (ms2 := 568) (N := 6) kaI dX9_init_261 (by decide) (by decide) (by omega) (by omega) (by omega) ?_
  refine z_hp (mHs (N := 22) (M := 23) (L := zu (zu (zu (zu (zu (zu (zu (zu (zu (zu (zu (zu (kZL) 5 0 974156) 5 1 1825) 5 2 1176170) 5 3 1891) 5 4 31692) 5 5 1167067) 5 6 22745289) 5 7 665385) 5 8 1132078311) 5 9 5538) 5 10 426554) 5 11 1633) rfl rfl (by decide) rfl) ?_
  refine z_putR zf9_98 dX9_init_263 (fun _ => rfl) (by decide) rfl ?_
  refine z_hp (mHs2 (N := 22) (M := 23) (j := 31) rfl (by decide) rfl) ?_
  refine z_aload_n (i := 0) dX9_init_266 rfl rfl ?_
  refine z_bipush (v := 6) dX9_init_267 (by decide) ?_
  refine z_newI (mc2 := 11) (ms2 := 562) (N := 6) kaI dX9_init_269 (by decide) (by decide) (by omega) (by omega) (by omega) ?_
  refine z_hp (mHs (N := 23) (M := 24) (L := zu (zu (zu (zu (zu (zu (zu (zu (zu (zu (zu (zu (kZL) 5 0 974156) 5 1 1825) 5 2 1176170) 5 3 1891) 5 4 31692) 5 5 1167067) 5 6 22745289) 5 7 665385) 5 8 1132078311) 5 9 5538) 5 10 426554) 5 11 1633) rfl rfl (by decide) rfl) ?_
  refine z_putR zf9_101 dX9_init_271 (fun _ => rfl) (by decide) rfl ?_
  refine z_hp (mHs2 (N := 23) (M := 24) (j := 32) rfl (by decide) rfl) ?_
  refine z_aload_n (i := 0) dX9_init_274 rfl rfl ?_
  refine z_bipush (v := 6) dX9_init_275 (by decide) ?_
  refine z_newI (mc2 := 10) (ms2 := 556) (N := 6) kaI dX9_init_277 (by decide) (by decide) (by omega) (by omega) (by omega) ?_
  refine z_hp (mHs (N := 24) (M := 25) (L := zu (zu (zu (zu (zu (zu (zu (zu (zu (zu (zu (zu (kZL) 5 0 974156) 5 1 1825) 5 2 1176170) 5 3 1891) 5 4 31692) 5 5 1167067) 5 6 22745289) 5 7 665385) 5 8 1132078311) 5 9 5538) 5 10 426554) 5 11 1633) rfl rfl (by decide) rfl) ?_
  refine z_putR zf9_104 dX9_init_279 (fun _ => rfl) (by decide) rfl ?_
  refine z_hp (mHs2 (N := 24) (M := 25) (j := 33) rfl (by decide) rfl) ?_
  refine z_aload_n (i := 0) dX9_init_282 rfl rfl ?_
  refine z_bipush (v := 60) dX9_init_283 (by decide) ?_
  refine z_newI (mc2 := 9) (ms2 := 496) (N := 60) kaI dX9_init_285 (by decide) (by decide) (by omega) (by omega) (by omega) ?_
  refine z_hp (mHs (N := 25) (M := 26) (L := zu (zu (zu (zu (zu (zu (zu (zu (zu (zu (zu (zu (kZL) 5 0 974156) 5 1 1825) 5 2 1176170) 5 3 1891) 5 4 31692) 5 5 1167067) 5 6 22745289) 5 7 665385) 5 8 1132078311) 5 9 5538) 5 10 426554) 5 11 1633) rfl rfl (by decide) rfl) ?_
  refine z_putR zf9_107 dX9_init_287 (fun _ => rfl) (by decide) rfl ?_
  refine z_hp (mHs2 (N := 25) (M := 26) (j := 36) rfl (by decide) rfl) ?_
  refine z_aload_n (i := 0) dX9_init_290 rfl rfl ?_
  refine z_bipush (v := 60) dX9_init_291 (by decide) ?_
  refine z_newI (mc2 := 8) (ms2 := 436) (N := 60) kaI dX9_init_293 (by decide) (by decide) (by omega) (by omega) (by omega) ?_
  refine z_hp (mHs (N := 26) (M := 27) (L := zu (zu (zu (zu (zu (zu (zu (zu (zu (zu (zu (zu (kZL) 5 0 974156) 5 1 1825) 5 2 1176170) 5 3 1891) 5 4 31692) 5 5 1167067) 5 6 22745289) 5 7 665385) 5 8 1132078311) 5 9 5538) 5 10 426554) 5 11 1633) rfl rfl (by decide) rfl) ?_
  refine z_putR zf9_110 dX9_init_295 (fun _ => rfl) (by decide) rfl ?_
  refine z_hp (mHs2 (N := 26) (M := 27) (j := 37) rfl (by decide) rfl) ?_
  refine z_aload_n (i := 0) dX9_init_298 rfl rfl ?_
  refine z_bipush (v := 60) dX9_init_299 (by decide) ?_
  refine z_newI (mc2 := 7) (ms2 := 376) (N := 60) kaI dX9_init_301 (by decide) (by decide) (by omega) (by omega) (by omega) ?_
  refine z_hp (mHs (N := 27) (M := 28) (L := zu (zu (zu (zu (zu (zu (zu (zu (zu (zu (zu (zu (kZL) 5 0 974156) 5 1 1825) 5 2 1176170) 5 3 1891) 5 4 31692) 5 5 1167067) 5 6 22745289) 5 7 665385) 5 8 1132078311) 5 9 5538) 5 10 426554) 5 11 1633) rfl rfl (by decide) rfl) ?_
  refine z_putR zf9_113 dX9_init_303 (fun _ => rfl) (by decide) rfl ?_
  refine z_hp (mHs2 (N := 27) (M := 28) (j := 38) rfl (by decide) rfl) ?_
  refine z_aload_n (i := 0) dX9_init_306 rfl rfl ?_
  refine z_bipush (v := 60) dX9_init_307 (by decide) ?_
  refine z_newI (mc2 := 6) (ms2 := 316) (N := 60) kaI dX9_init_309 (by decide) (by decide) (by omega) (by omega) (by omega) ?_
  refine z_hp (mHs (N := 28) (M := 29) (L := zu (zu (zu (zu (zu (zu (zu (zu (zu (zu (zu (zu (kZL) 5 0 974156) 5 1 1825) 5 2 1176170) 5 3 1891) 5 4 31692) 5 5 1167067) 5 6 22745289) 5 7 665385) 5 8 1132078311) 5 9 5538) 5 10 426554) 5 11 1633) rfl rfl (by decide) rfl) ?_
  refine z_putR zf9_116 dX9_init_311 (fun _ => rfl) (by decide) rfl ?_
  refine z_hp (mHs2 (N := 28) (M := 29) (j := 39) rfl (by decide) rfl) ?_
  refine z_aload_n (i := 0) dX9_init_314 rfl rfl ?_
  refine z_bipush (v := 60) dX9_init_315 (by decide) ?_
  refine z_newI (mc2 := 5) (ms2 := 256) (N := 60) kaI dX9_init_317 (by decide) (by decide) (by omega) (by omega) (by omega) ?_
  refine z_hp (mHs (N := 29) (M := 30) (L := zu (zu (zu (zu (zu (zu (zu (zu (zu (zu (zu (zu (kZL) 5 0 974156) 5 1 1825) 5 2 1176170) 5 3 1891) 5 4 31692) 5 5 1167067) 5 6 22745289) 5 7 665385) 5 8 1132078311) 5 9 5538) 5 10 426554) 5 11 1633) rfl rfl (by decide) rfl) ?_
  refine z_putR zf9_119 dX9_init_319 (fun _ => rfl) (by decide) rfl ?_
  refine z_hp (mHs2 (N := 29) (M := 30) (j := 40) rfl (by decide) rfl) ?_
  refine z_aload_n (i := 0) dX9_init_322 rfl rfl ?_
  refine z_bipush (v := 60) dX9_init_323 (by decide) ?_
  refine z_newI (mc2 := 4) (ms2 := 196) (N := 60) kaI dX9_init_325 (by decide) (by decide) (by omega) (by omega) (by omega) ?_
  refine z_hp (mHs (N := 30) (M := 31) (L := zu (zu (zu (zu (zu (zu (zu (zu (zu (zu (zu (zu (kZL) 5 0 974156) 5 1 1825) 5 2 1176170) 5 3 1891) 5 4 31692) 5 5 1167067) 5 6 22745289) 5 7 665385) 5 8 1132078311) 5 9 5538) 5 10 426554) 5 11 1633) rfl rfl (by decide) rfl) ?_
  refine z_putR zf9_122 dX9_init_327 (fun _ => rfl) (by decide) rfl ?_
  refine z_hp (mHs2 (N := 30) (M := 31) (j := 41) rfl (by decide) rfl) ?_
  refine z_aload_n (i := 0) dX9_init_330 rfl rfl ?_
  refine z_bipush (v := 60) dX9_init_331 (by decide) ?_
  refine z_newI (mc2 := 3) (ms2 := 136) (N := 60) kaI dX9_init_333 (by decide) (by decide) (by omega) (by omega) (by omega) ?_
  refine z_hp (mHs (N := 31) (M := 32) (L := zu (zu (zu (zu (zu (zu (zu (zu (zu (zu (zu (zu (kZL) 5 0 974156) 5 1 1825) 5 2 1176170) 5 3 1891) 5 4 31692) 5 5 1167067) 5 6 22745289) 5 7 665385) 5 8 1132078311) 5 9 5538) 5 10 426554) 5 11 1633) rfl rfl (by decide) rfl) ?_
  refine z_putR zf9_125 dX9_init_335 (fun _ => rfl) (by decide) rfl ?_
  refine z_hp (mHs2 (N := 31) (M := 32) (j := 42) rfl (by decide) rfl) ?_
  refine z_aload_n (i := 0) dX9_init_338 rfl rfl ?_
  refine z_bipush (v := 60) dX9_init_339 (by decide) ?_
  refine z_newI (mc2 := 2) (ms2 := 76) (N := 60) kaI dX9_init_341 (by decide) (by decide) (by omega) (by omega) (by omega) ?_
  refine z_hp (mHs (N := 32) (M := 33) (L := zu (zu (zu (zu (zu (zu (zu (zu (zu (zu (zu (zu (kZL) 5 0 974156) 5 1 1825) 5 2 1176170) 5 3 1891) 5 4 31692) 5 5 1167067) 5 6 22745289) 5 7 665385) 5 8 1132078311) 5 9 5538) 5 10 426554) 5 11 1633) rfl rfl (by decide) rfl) ?_
  refine z_putR zf9_128 dX9_init_343 (fun _ => rfl) (by decide) rfl ?_
  refine z_hp (mHs2 (N := 32) (M := 33) (j := 43) rfl (by decide) rfl) ?_
  refine z_aload_n (i := 0) dX9_init_346 rfl rfl ?_
  refine z_bipush (v := 60) dX9_init_347 (by decide) ?_
  refine z_newI (mc2 := 1) (ms2 := 16) (N := 60) kaI dX9_init_349 (by decide) (by decide) (by omega) (by omega) (by omega) ?_
  refine z_hp (mHs (N := 33) (M := 34) (L := zu (zu (zu (zu (zu (zu (zu (zu (zu (zu (zu (zu (kZL) 5 0 974156) 5 1 1825) 5 2 1176170) 5 3 1891) 5 4 31692) 5 5 1167067) 5 6 22745289) 5 7 665385) 5 8 1132078311) 5 9 5538) 5 10 426554) 5 11 1633) rfl rfl (by decide) rfl) ?_
  refine z_putR zf9_131 dX9_init_351 (fun _ => rfl) (by decide) rfl ?_
  refine z_hp (mHs2 (N := 33) (M := 34) (j := 44) rfl (by decide) rfl) ?_
  refine z_aload_n (i := 0) dX9_init_354 rfl rfl ?_
  refine z_bipush (v := 16) dX9_init_355 (by decide) ?_
  refine z_newI (mc2 := 0) (ms2 := 0) (N := 16) kaI dX9_init_357 (by decide) (by decide) (by omega) (by omega) (by omega) ?_
  refine z_hp (mHs (N := 34) (M := 35) (L := zu (zu (zu (zu (zu (zu (zu (zu (zu (zu (zu (zu (kZL) 5 0 974156) 5 1 1825) 5 2 1176170) 5 3 1891) 5 4 31692) 5 5 1167067) 5 6 22745289) 5 7 665385) 5 8 1132078311) 5 9 5538) 5 10 426554) 5 11 1633) rfl rfl (by decide) rfl) ?_
  refine z_putR zf9_134 dX9_init_359 (fun _ => rfl) (by decide) rfl ?_
  refine z_hp (mHs2 (N := 34) (M := 35) (j := 45) rfl (by decide) rfl) ?_
  refine z_vret dX9_init_362 rfl ?_
  subst hQ0
  refine ⟨rfl, zu (zu (zu (zu (zu (zu (zu (zu (zu (zu (zu (zu (kZL) 5 0 974156) 5 1 1825) 5 2 1176170) 5 3 1891) 5 4 31692) 5 5 1167067) 5 6 22745289) 5 7 665385) 5 8 1132078311) 5 9 5538) 5 10 426554) 5 11 1633, mHe, ?_⟩
  decide +kernel
