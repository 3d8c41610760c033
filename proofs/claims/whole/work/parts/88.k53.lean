/-! a new keeper -/
def kKl : List (Nat × Nat) := [(13, 0), (3, 6), (4, 60), (0, 3), (0, 16), (0, 16), (0, 16), (0, 8), (5, 0), (0, 7), (0, 7), (10, 0), (2, 600), (11, 0), (0, 601), (0, 601), (0, 601), (8, 0), (9, 0), (0, 600), (0, 16), (0, 16), (0, 16), (9, 0), (0, 600), (0, 16), (0, 16), (0, 16)]
def kKt (N : Nat) : Nat → Nat × Nat := fun a => if a < N then kKl.getD a (0, 0) else (13, 0)
theorem kKt_s {N M : Nat} {z : Nat × Nat} (hM : N + 1 = M) (hz : kKl.getD N (0, 0) = z) : va_up (kKt N) N z = kKt M := by
  subst hM
  subst hz
  funext a
  unfold va_up kKt
  by_cases h : a = N
  · rw [if_pos h, if_pos (by omega), h]
  · rw [if_neg h]
    by_cases h2 : a < N
    · rw [if_pos h2, if_pos (by omega)]
    · rw [if_neg h2, if_neg (by omega)]
abbrev kZI : Nat → Nat → Int32 := fun _ _ => 0
abbrev kZL : Nat → Nat → Int64 := fun _ _ => 0
abbrev kZR : Nat → Nat → Option Nat := fun _ _ => none
theorem va_upz {α : Type} {f : Nat → α} {N : Nat} {v : α} (h : f N = v) : va_up f N v = f := by
  funext a
  unfold va_up
  by_cases e : a = N
  · rw [if_pos e, e, h]
  · rw [if_neg e]
theorem kHs {N M : Nat} {z : Nat × Nat} (R : Nat → Nat → Option Nat) (hM : N + 1 = M) (hz : kKl.getD N (0, 0) = z) (hR : R N = fun _ => none) : ((N + 1, va_up (kKt N) N z, va_up kZI N (fun _ => 0), va_up kZL N (fun _ => 0), va_up R N (fun _ => none)) : ZH) = (M, kKt M, kZI, kZL, R) := by
  rw [kKt_s hM hz, va_upz (f := kZI) rfl, va_upz (f := kZL) rfl, va_upz hR, hM]
theorem kNaS {N M b k : Nat} {z : Nat × Nat} (R : Nat → Nat → Option Nat) (hM : N + 1 = M) (hz : kKl.getD N (0, 0) = z) (hR : R N = fun _ => none) : kNa (N, kKt N, kZI, kZL, R) b k z = (M, kKt M, kZI, kZL, zu R b k (some N)) := by
  unfold kNa
  dsimp only
  rw [kKt_s hM hz, va_upz (f := kZI) rfl, va_upz (f := kZL) rfl, va_upz hR, hM]
theorem kzz (a k : Nat) : zu kZI a k 0 = kZI := by
  funext b j
  rw [zu_apply]
  split <;> rfl
theorem ko8_3 : Cond.methodLink RX8 3 Lib.objectInit ∈ zTB := zTB_of (by decide +kernel) rfl
theorem kaP1 : Cond.classLink RX8 9 RX2 ∈ zTB := zTB_of (by decide +kernel) rfl
theorem kaQ1 : Cond.classLink RX8 15 RX1 ∈ zTB := zTB_of (by decide +kernel) rfl
theorem zw8_39 : zNw RX8 39 0 2 := ⟨RX0, TX0, tyX0, zC0, zTB_of (by decide +kernel) rfl, zTB_of (by decide +kernel) rfl, zTB_of (by decide +kernel) rfl, by decide +kernel⟩
theorem zw8_46 : zNw RX8 46 5 2 := ⟨RX5, TX5, tyX5, zC5, zTB_of (by decide +kernel) rfl, zTB_of (by decide +kernel) rfl, zTB_of (by decide +kernel) rfl, by decide +kernel⟩
theorem zw8_34 : zNw RX8 34 6 4 := ⟨RX6, TX6, tyX6, zC6, zTB_of (by decide +kernel) rfl, zTB_of (by decide +kernel) rfl, zTB_of (by decide +kernel) rfl, by decide +kernel⟩
theorem zw8_58 : zNw RX8 58 3 4 := ⟨RX3, TX3, tyX3, zC3, zTB_of (by decide +kernel) rfl, zTB_of (by decide +kernel) rfl, zTB_of (by decide +kernel) rfl, by decide +kernel⟩
theorem zw8_67 : zNw RX8 67 4 7 := ⟨RX4, TX4, tyX4, zC4, zTB_of (by decide +kernel) rfl, zTB_of (by decide +kernel) rfl, zTB_of (by decide +kernel) rfl, by decide +kernel⟩
abbrev x8_init : ZX := (RX8, cX8_init, 1, none, "<init>", 2, 80, false)
abbrev kH0 : ZH := (1, kKt 1, kZI, kZL, kZR)
set_option maxHeartbeats 4000000 in
theorem c8_init : Zm yX8_init cX8_init 1 none 2 80 27 3864 [.ref 0] kH0 (fun r h => r = none ∧ ∃ R', h = (28, kKt 28, kZI, kZL, R') ∧ kG 28 (kKt 28) R' 0 0 (fun _ => 0) (fun _ => 0) 18 23 ∧ kClo 28 R') := by
  refine Zm_of (lg := false) (by decide) (fun _ => by simp [Value.category]) (fun _ => Nat.le_of_ble_eq_true rfl) ?_
  show Zf x8_init 27 3864 0 (zargs [.ref 0]) [] kH0 _
  generalize hQ0 : ((fun r h => r = none ∧ ∃ R', h = (28, kKt 28, kZI, kZL, R') ∧ kG 28 (kKt 28) R' 0 0 (fun _ => 0) (fun _ => 0) 18 23 ∧ kClo 28 R') : Option Value → ZH → Prop) = Q0
  refine z_aload_n (i := 0) dX8_init_0 rfl rfl ?_
  refine z_objInit dX8_init_1 ko8_3 koI koC (Nat.le_of_ble_eq_true rfl) (Nat.le_of_ble_eq_true rfl) (Nat.le_of_ble_eq_true rfl) ?_
  refine z_aload_n (i := 0) dX8_init_4 rfl rfl ?_
  refine z_bipush (v := 6) dX8_init_5 (by decide) ?_
  refine z_newP (mc2 := 26) (ms2 := 3858) (N := 6) kaP1 dX8_init_7 (by decide) (by decide) (by omega) (by omega) (by omega) ?_
  refine z_hp (kHs (N := 1) (M := 2) (kZR) rfl rfl rfl) ?_
  refine z_putR zf8_11 dX8_init_10 (fun _ => rfl) (by decide) rfl ?_
  refine z_aload_n (i := 0) dX8_init_13 rfl rfl ?_
  refine z_bipush (v := 60) dX8_init_14 (by decide) ?_
  refine z_newQ (mc2 := 25) (ms2 := 3798) (N := 60) kaQ1 dX8_init_16 (by decide) (by decide) (by omega) (by omega) (by omega) ?_
  refine z_hp (kHs (N := 2) (M := 3) (zu (kZR) 0 0 (some 1)) rfl rfl rfl) ?_
  refine z_putR zf8_17 dX8_init_19 (fun _ => rfl) (by decide) rfl ?_
  refine z_aload_n (i := 0) dX8_init_22 rfl rfl ?_
  refine z_iconst (v := 3) dX8_init_23 (by decide) ?_
  refine z_newI (mc2 := 24) (ms2 := 3795) (N := 3) kaI dX8_init_24 (by decide) (by decide) (by omega) (by omega) (by omega) ?_
  refine z_hp (kHs (N := 3) (M := 4) (zu (zu (kZR) 0 0 (some 1)) 0 1 (some 2)) rfl rfl rfl) ?_
  refine z_putR zf8_21 dX8_init_26 (fun _ => rfl) (by decide) rfl ?_
  refine z_aload_n (i := 0) dX8_init_29 rfl rfl ?_
  refine z_bipush (v := 16) dX8_init_30 (by decide) ?_
  refine z_newI (mc2 := 23) (ms2 := 3779) (N := 16) kaI dX8_init_32 (by decide) (by decide) (by omega) (by omega) (by omega) ?_
  refine z_hp (kHs (N := 4) (M := 5) (zu (zu (zu (kZR) 0 0 (some 1)) 0 1 (some 2)) 0 2 (some 3)) rfl rfl rfl) ?_
  refine z_putR zf8_25 dX8_init_34 (fun _ => rfl) (by decide) rfl ?_
  refine z_aload_n (i := 0) dX8_init_37 rfl rfl ?_
  refine z_bipush (v := 16) dX8_init_38 (by decide) ?_
  refine z_newI (mc2 := 22) (ms2 := 3763) (N := 16) kaI dX8_init_40 (by decide) (by decide) (by omega) (by omega) (by omega) ?_
  refine z_hp (kHs (N := 5) (M := 6) (zu (zu (zu (zu (kZR) 0 0 (some 1)) 0 1 (some 2)) 0 2 (some 3)) 0 3 (some 4)) rfl rfl rfl) ?_
  refine z_putR zf8_28 dX8_init_42 (fun _ => rfl) (by decide) rfl ?_
  refine z_aload_n (i := 0) dX8_init_45 rfl rfl ?_
  refine z_bipush (v := 16) dX8_init_46 (by decide) ?_
  refine z_newI (mc2 := 21) (ms2 := 3747) (N := 16) kaI dX8_init_48 (by decide) (by decide) (by omega) (by omega) (by omega) ?_
  refine z_hp (kHs (N := 6) (M := 7) (zu (zu (zu (zu (zu (kZR) 0 0 (some 1)) 0 1 (some 2)) 0 2 (some 3)) 0 3 (some 4)) 0 4 (some 5)) rfl rfl rfl) ?_
  refine z_putR zf8_31 dX8_init_50 (fun _ => rfl) (by decide) rfl ?_
  refine z_aload_n (i := 0) dX8_init_53 rfl rfl ?_
  refine z_bipush (v := 8) dX8_init_54 (by decide) ?_
  refine z_newI (mc2 := 20) (ms2 := 3739) (N := 8) kaI dX8_init_56 (by decide) (by decide) (by omega) (by omega) (by omega) ?_
  refine z_hp (kHs (N := 7) (M := 8) (zu (zu (zu (zu (zu (zu (kZR) 0 0 (some 1)) 0 1 (some 2)) 0 2 (some 3)) 0 3 (some 4)) 0 4 (some 5)) 0 5 (some 6)) rfl rfl rfl) ?_
  refine z_putR zf8_36 dX8_init_58 (fun _ => rfl) (by decide) rfl ?_
  refine z_aload_n (i := 0) dX8_init_61 rfl rfl ?_
  refine z_new (mc2 := 19) (ms2 := 3737) zw8_39 dX8_init_62 (by omega) (by omega) ?_
  refine z_hp (kHs (N := 8) (M := 9) (zu (zu (zu (zu (zu (zu (zu (kZR) 0 0 (some 1)) 0 1 (some 2)) 0 2 (some 3)) 0 3 (some 4)) 0 4 (some 5)) 0 5 (some 6)) 0 6 (some 7)) rfl rfl rfl) ?_
  refine z_dup dX8_init_65 rfl ?_
  refine z_callIN (st := [_, _]) (mc2 := 17) (ms2 := 3723) rfl (by decide) (zTB_of (by decide +kernel) rfl) (zTB_of (by decide +kernel) rfl) ⟨by decide, by decide, by decide +kernel⟩ (zTB_of (by decide +kernel) rfl) rfl (c0_init 9 _ _ _ _ 8 (by decide) rfl) dX8_init_66 rfl rfl (by decide) (by decide) (Nat.le_of_ble_eq_true rfl) (by decide) (by decide) (fun r h2 hq => ?_)
  obtain ⟨rfl, rfl⟩ := hq
  simp only [Option.toList, List.nil_append]
  refine z_hp (Eq.trans (congrArg (fun h => kNa (h) 8 1 (0, 7)) (kNaS (N := 9) (M := 10) (b := 8) (k := 0) (z := (0, 7)) (zu (zu (zu (zu (zu (zu (zu (kZR) 0 0 (some 1)) 0 1 (some 2)) 0 2 (some 3)) 0 3 (some 4)) 0 4 (some 5)) 0 5 (some 6)) 0 6 (some 7)) rfl rfl rfl)) (kNaS (N := 10) (M := 11) (b := 8) (k := 1) (z := (0, 7)) (zu (zu (zu (zu (zu (zu (zu (zu (kZR) 0 0 (some 1)) 0 1 (some 2)) 0 2 (some 3)) 0 3 (some 4)) 0 4 (some 5)) 0 5 (some 6)) 0 6 (some 7)) 8 0 (some 9)) rfl rfl rfl)) ?_
  refine z_putR zf8_42 dX8_init_69 (fun _ => rfl) (by decide) rfl ?_
  refine z_aload_n (i := 0) dX8_init_72 rfl rfl ?_
  refine z_new (mc2 := 16) (ms2 := 3721) zw8_46 dX8_init_73 (by omega) (by omega) ?_
  refine z_hp (kHs (N := 11) (M := 12) (zu (zu (zu (zu (zu (zu (zu (zu (zu (zu (kZR) 0 0 (some 1)) 0 1 (some 2)) 0 2 (some 3)) 0 3 (some 4)) 0 4 (some 5)) 0 5 (some 6)) 0 6 (some 7)) 8 0 (some 9)) 8 1 (some 10)) 0 7 (some 8)) rfl rfl rfl) ?_
  refine z_dup dX8_init_76 rfl ?_
  refine z_callIN (st := [_, _]) (mc2 := 15) (ms2 := 3121) rfl (by decide) (zTB_of (by decide +kernel) rfl) (zTB_of (by decide +kernel) rfl) ⟨by decide, by decide, by decide +kernel⟩ (zTB_of (by decide +kernel) rfl) rfl (c5_init 12 _ _ _ _ 11 (by decide) rfl) dX8_init_77 rfl rfl (by decide) (by decide) (Nat.le_of_ble_eq_true rfl) (by decide) (by decide) (fun r h2 hq => ?_)
  obtain ⟨rfl, rfl⟩ := hq
  simp only [Option.toList, List.nil_append]
  refine z_hp (kNaS (N := 12) (M := 13) (b := 11) (k := 0) (z := (2, 600)) (zu (zu (zu (zu (zu (zu (zu (zu (zu (zu (kZR) 0 0 (some 1)) 0 1 (some 2)) 0 2 (some 3)) 0 3 (some 4)) 0 4 (some 5)) 0 5 (some 6)) 0 6 (some 7)) 8 0 (some 9)) 8 1 (some 10)) 0 7 (some 8)) rfl rfl rfl) ?_
  refine z_putR zf8_49 dX8_init_80 (fun _ => rfl) (by decide) rfl ?_
  refine z_aload_n (i := 0) dX8_init_83 rfl rfl ?_
  refine z_new (mc2 := 14) (ms2 := 3117) zw8_34 dX8_init_84 (by omega) (by omega) ?_
  refine z_hp (kHs (N := 13) (M := 14) (zu (zu (zu (zu (zu (zu (zu (zu (zu (zu (zu (zu (kZR) 0 0 (some 1)) 0 1 (some 2)) 0 2 (some 3)) 0 3 (some 4)) 0 4 (some 5)) 0 5 (some 6)) 0 6 (some 7)) 8 0 (some 9)) 8 1 (some 10)) 0 7 (some 8)) 11 0 (some 12)) 0 8 (some 11)) rfl rfl rfl) ?_
  refine z_dup dX8_init_87 rfl ?_
  refine z_callIN (st := [_, _]) (mc2 := 11) (ms2 := 1314) rfl (by decide) (zTB_of (by decide +kernel) rfl) (zTB_of (by decide +kernel) rfl) ⟨by decide, by decide, by decide +kernel⟩ (zTB_of (by decide +kernel) rfl) rfl (c6_init 14 _ _ _ _ 13 (by decide) rfl) dX8_init_88 rfl rfl (by decide) (by decide) (Nat.le_of_ble_eq_true rfl) (by decide) (by decide) (fun r h2 hq => ?_)
  obtain ⟨rfl, rfl⟩ := hq
  simp only [Option.toList, List.nil_append]
  refine z_hp (Eq.trans (Eq.trans (congrArg (fun h => kNa (kNa (h) 13 1 (0, 601)) 13 2 (0, 601)) (kNaS (N := 14) (M := 15) (b := 13) (k := 0) (z := (0, 601)) (zu (zu (zu (zu (zu (zu (zu (zu (zu (zu (zu (zu (kZR) 0 0 (some 1)) 0 1 (some 2)) 0 2 (some 3)) 0 3 (some 4)) 0 4 (some 5)) 0 5 (some 6)) 0 6 (some 7)) 8 0 (some 9)) 8 1 (some 10)) 0 7 (some 8)) 11 0 (some 12)) 0 8 (some 11)) rfl rfl rfl)) (congrArg (fun h => kNa (h) 13 2 (0, 601)) (kNaS (N := 15) (M := 16) (b := 13) (k := 1) (z := (0, 601)) (zu (zu (zu (zu (zu (zu (zu (zu (zu (zu (zu (zu (zu (kZR) 0 0 (some 1)) 0 1 (some 2)) 0 2 (some 3)) 0 3 (some 4)) 0 4 (some 5)) 0 5 (some 6)) 0 6 (some 7)) 8 0 (some 9)) 8 1 (some 10)) 0 7 (some 8)) 11 0 (some 12)) 0 8 (some 11)) 13 0 (some 14)) rfl rfl rfl))) (kNaS (N := 16) (M := 17) (b := 13) (k := 2) (z := (0, 601)) (zu (zu (zu (zu (zu (zu (zu (zu (zu (zu (zu (zu (zu (zu (kZR) 0 0 (some 1)) 0 1 (some 2)) 0 2 (some 3)) 0 3 (some 4)) 0 4 (some 5)) 0 5 (some 6)) 0 6 (some 7)) 8 0 (some 9)) 8 1 (some 10)) 0 7 (some 8)) 11 0 (some 12)) 0 8 (some 11)) 13 0 (some 14)) 13 1 (some 15)) rfl rfl rfl)) ?_
  refine z_putR zf8_54 dX8_init_91 (fun _ => rfl) (by decide) rfl ?_
  refine z_aload_n (i := 0) dX8_init_94 rfl rfl ?_
  refine z_new (mc2 := 10) (ms2 := 1310) zw8_58 dX8_init_95 (by omega) (by omega) ?_
  refine z_hp (kHs (N := 17) (M := 18) (zu (zu (zu (zu (zu (zu (zu (zu (zu (zu (zu (zu (zu (zu (zu (zu (kZR) 0 0 (some 1)) 0 1 (some 2)) 0 2 (some 3)) 0 3 (some 4)) 0 4 (some 5)) 0 5 (some 6)) 0 6 (some 7)) 8 0 (some 9)) 8 1 (some 10)) 0 7 (some 8)) 11 0 (some 12)) 0 8 (some 11)) 13 0 (some 14)) 13 1 (some 15)) 13 2 (some 16)) 0 9 (some 13)) rfl rfl rfl) ?_
  refine z_dup dX8_init_98 rfl ?_
  refine z_aload_n (i := 0) dX8_init_99 rfl rfl ?_
  refine z_gR zf8_54.g dX8_init_100 (by decide) rfl (b := 13) rfl ?_
  refine z_callI (st := [_, _]) (mc2 := 10) (ms2 := 1310) zi8_60 zn_yX3_init rfl (c3_init 18 _ _ _ _ 17 13 (by decide) rfl) dX8_init_103 rfl rfl (by decide) (by decide) (Nat.le_of_ble_eq_true rfl) (by decide) (by decide) (fun r h2 hq => ?_)
  obtain ⟨rfl, rfl⟩ := hq
  simp only [Option.toList, List.nil_append]
  refine z_putR zf8_63 dX8_init_106 (fun _ => rfl) (by decide) rfl ?_
  refine z_aload_n (i := 0) dX8_init_109 rfl rfl ?_
  refine z_new (mc2 := 9) (ms2 := 1303) zw8_67 dX8_init_110 (by omega) (by omega) ?_
  refine z_hp (kHs (N := 18) (M := 19) (zu (zu (zu (zu (zu (zu (zu (zu (zu (zu (zu (zu (zu (zu (zu (zu (zu (zu (kZR) 0 0 (some 1)) 0 1 (some 2)) 0 2 (some 3)) 0 3 (some 4)) 0 4 (some 5)) 0 5 (some 6)) 0 6 (some 7)) 8 0 (some 9)) 8 1 (some 10)) 0 7 (some 8)) 11 0 (some 12)) 0 8 (some 11)) 13 0 (some 14)) 13 1 (some 15)) 13 2 (some 16)) 0 9 (some 13)) 17 0 (some 13)) 0 10 (some 17)) rfl rfl rfl) ?_
  refine z_dup dX8_init_113 rfl ?_
  refine z_callIN (st := [_, _]) (mc2 := 5) (ms2 := 655) rfl (by decide) (zTB_of (by decide +kernel) rfl) (zTB_of (by decide +kernel) rfl) ⟨by decide, by decide, by decide +kernel⟩ (zTB_of (by decide +kernel) rfl) rfl (c4_init 19 _ _ _ _ 18 (by decide) rfl) dX8_init_114 rfl rfl (by decide) (by decide) (Nat.le_of_ble_eq_true rfl) (by decide) (by decide) (fun r h2 hq => ?_)
  obtain ⟨rfl, rfl⟩ := hq
  simp only [Option.toList, List.nil_append]
  refine z_hp (Eq.trans (Eq.trans (Eq.trans (congrArg (fun h => kNa (kNa (kNa (h) 18 1 (0, 16)) 18 2 (0, 16)) 18 3 (0, 16)) (kNaS (N := 19) (M := 20) (b := 18) (k := 0) (z := (0, 600)) (zu (zu (zu (zu (zu (zu (zu (zu (zu (zu (zu (zu (zu (zu (zu (zu (zu (zu (kZR) 0 0 (some 1)) 0 1 (some 2)) 0 2 (some 3)) 0 3 (some 4)) 0 4 (some 5)) 0 5 (some 6)) 0 6 (some 7)) 8 0 (some 9)) 8 1 (some 10)) 0 7 (some 8)) 11 0 (some 12)) 0 8 (some 11)) 13 0 (some 14)) 13 1 (some 15)) 13 2 (some 16)) 0 9 (some 13)) 17 0 (some 13)) 0 10 (some 17)) rfl rfl rfl)) (congrArg (fun h => kNa (kNa (h) 18 2 (0, 16)) 18 3 (0, 16)) (kNaS (N := 20) (M := 21) (b := 18) (k := 1) (z := (0, 16)) (zu (zu (zu (zu (zu (zu (zu (zu (zu (zu (zu (zu (zu (zu (zu (zu (zu (zu (zu (kZR) 0 0 (some 1)) 0 1 (some 2)) 0 2 (some 3)) 0 3 (some 4)) 0 4 (some 5)) 0 5 (some 6)) 0 6 (some 7)) 8 0 (some 9)) 8 1 (some 10)) 0 7 (some 8)) 11 0 (some 12)) 0 8 (some 11)) 13 0 (some 14)) 13 1 (some 15)) 13 2 (some 16)) 0 9 (some 13)) 17 0 (some 13)) 0 10 (some 17)) 18 0 (some 19)) rfl rfl rfl))) (congrArg (fun h => kNa (h) 18 3 (0, 16)) (kNaS (N := 21) (M := 22) (b := 18) (k := 2) (z := (0, 16)) (zu (zu (zu (zu (zu (zu (zu (zu (zu (zu (zu (zu (zu (zu (zu (zu (zu (zu (zu (zu (kZR) 0 0 (some 1)) 0 1 (some 2)) 0 2 (some 3)) 0 3 (some 4)) 0 4 (some 5)) 0 5 (some 6)) 0 6 (some 7)) 8 0 (some 9)) 8 1 (some 10)) 0 7 (some 8)) 11 0 (some 12)) 0 8 (some 11)) 13 0 (some 14)) 13 1 (some 15)) 13 2 (some 16)) 0 9 (some 13)) 17 0 (some 13)) 0 10 (some 17)) 18 0 (some 19)) 18 1 (some 20)) rfl rfl rfl))) (kNaS (N := 22) (M := 23) (b := 18) (k := 3) (z := (0, 16)) (zu (zu (zu (zu (zu (zu (zu (zu (zu (zu (zu (zu (zu (zu (zu (zu (zu (zu (zu (zu (zu (kZR) 0 0 (some 1)) 0 1 (some 2)) 0 2 (some 3)) 0 3 (some 4)) 0 4 (some 5)) 0 5 (some 6)) 0 6 (some 7)) 8 0 (some 9)) 8 1 (some 10)) 0 7 (some 8)) 11 0 (some 12)) 0 8 (some 11)) 13 0 (some 14)) 13 1 (some 15)) 13 2 (some 16)) 0 9 (some 13)) 17 0 (some 13)) 0 10 (some 17)) 18 0 (some 19)) 18 1 (some 20)) 18 2 (some 21)) rfl rfl rfl)) ?_
  refine z_putR zf8_70 dX8_init_117 (fun h => by cases h) (by decide) rfl ?_
  refine z_aload_n (i := 0) dX8_init_120 rfl rfl ?_
  refine z_new (mc2 := 4) (ms2 := 648) zw8_67 dX8_init_121 (by omega) (by omega) ?_
  refine z_hp (kHs (N := 23) (M := 24) (zu (zu (zu (zu (zu (zu (zu (zu (zu (zu (zu (zu (zu (zu (zu (zu (zu (zu (zu (zu (zu (zu (zu (kZR) 0 0 (some 1)) 0 1 (some 2)) 0 2 (some 3)) 0 3 (some 4)) 0 4 (some 5)) 0 5 (some 6)) 0 6 (some 7)) 8 0 (some 9)) 8 1 (some 10)) 0 7 (some 8)) 11 0 (some 12)) 0 8 (some 11)) 13 0 (some 14)) 13 1 (some 15)) 13 2 (some 16)) 0 9 (some 13)) 17 0 (some 13)) 0 10 (some 17)) 18 0 (some 19)) 18 1 (some 20)) 18 2 (some 21)) 18 3 (some 22)) 0 11 (some 18)) rfl rfl rfl) ?_
  refine z_dup dX8_init_124 rfl ?_
  refine z_callIN (st := [_, _]) (mc2 := 0) (ms2 := 0) rfl (by decide) (zTB_of (by decide +kernel) rfl) (zTB_of (by decide +kernel) rfl) ⟨by decide, by decide, by decide +kernel⟩ (zTB_of (by decide +kernel) rfl) rfl (c4_init 24 _ _ _ _ 23 (by decide) rfl) dX8_init_125 rfl rfl (by decide) (by decide) (Nat.le_of_ble_eq_true rfl) (by decide) (by decide) (fun r h2 hq => ?_)
  obtain ⟨rfl, rfl⟩ := hq
  simp only [Option.toList, List.nil_append]
  refine z_hp (Eq.trans (Eq.trans (Eq.trans (congrArg (fun h => kNa (kNa (kNa (h) 23 1 (0, 16)) 23 2 (0, 16)) 23 3 (0, 16)) (kNaS (N := 24) (M := 25) (b := 23) (k := 0) (z := (0, 600)) (zu (zu (zu (zu (zu (zu (zu (zu (zu (zu (zu (zu (zu (zu (zu (zu (zu (zu (zu (zu (zu (zu (zu (kZR) 0 0 (some 1)) 0 1 (some 2)) 0 2 (some 3)) 0 3 (some 4)) 0 4 (some 5)) 0 5 (some 6)) 0 6 (some 7)) 8 0 (some 9)) 8 1 (some 10)) 0 7 (some 8)) 11 0 (some 12)) 0 8 (some 11)) 13 0 (some 14)) 13 1 (some 15)) 13 2 (some 16)) 0 9 (some 13)) 17 0 (some 13)) 0 10 (some 17)) 18 0 (some 19)) 18 1 (some 20)) 18 2 (some 21)) 18 3 (some 22)) 0 11 (some 18)) rfl rfl rfl)) (congrArg (fun h => kNa (kNa (h) 23 2 (0, 16)) 23 3 (0, 16)) (kNaS (N := 25) (M := 26) (b := 23) (k := 1) (z := (0, 16)) (zu (zu (zu (zu (zu (zu (zu (zu (zu (zu (zu (zu (zu (zu (zu (zu (zu (zu (zu (zu (zu (zu (zu (zu (kZR) 0 0 (some 1)) 0 1 (some 2)) 0 2 (some 3)) 0 3 (some 4)) 0 4 (some 5)) 0 5 (some 6)) 0 6 (some 7)) 8 0 (some 9)) 8 1 (some 10)) 0 7 (some 8)) 11 0 (some 12)) 0 8 (some 11)) 13 0 (some 14)) 13 1 (some 15)) 13 2 (some 16)) 0 9 (some 13)) 17 0 (some 13)) 0 10 (some 17)) 18 0 (some 19)) 18 1 (some 20)) 18 2 (some 21)) 18 3 (some 22)) 0 11 (some 18)) 23 0 (some 24)) rfl rfl rfl))) (congrArg (fun h => kNa (h) 23 3 (0, 16)) (kNaS (N := 26) (M := 27) (b := 23) (k := 2) (z := (0, 16)) (zu (zu (zu (zu (zu (zu (zu (zu (zu (zu (zu (zu (zu (zu (zu (zu (zu (zu (zu (zu (zu (zu (zu (zu (zu (kZR) 0 0 (some 1)) 0 1 (some 2)) 0 2 (some 3)) 0 3 (some 4)) 0 4 (some 5)) 0 5 (some 6)) 0 6 (some 7)) 8 0 (some 9)) 8 1 (some 10)) 0 7 (some 8)) 11 0 (some 12)) 0 8 (some 11)) 13 0 (some 14)) 13 1 (some 15)) 13 2 (some 16)) 0 9 (some 13)) 17 0 (some 13)) 0 10 (some 17)) 18 0 (some 19)) 18 1 (some 20)) 18 2 (some 21)) 18 3 (some 22)) 0 11 (some 18)) 23 0 (some 24)) 23 1 (some 25)) rfl rfl rfl))) (kNaS (N := 27) (M := 28) (b := 23) (k := 3) (z := (0, 16)) (zu (zu (zu (zu (zu (zu (zu (zu (zu (zu (zu (zu (zu (zu (zu (zu (zu (zu (zu (zu (zu (zu (zu (zu (zu (zu (kZR) 0 0 (some 1)) 0 1 (some 2)) 0 2 (some 3)) 0 3 (some 4)) 0 4 (some 5)) 0 5 (some 6)) 0 6 (some 7)) 8 0 (some 9)) 8 1 (some 10)) 0 7 (some 8)) 11 0 (some 12)) 0 8 (some 11)) 13 0 (some 14)) 13 1 (some 15)) 13 2 (some 16)) 0 9 (some 13)) 17 0 (some 13)) 0 10 (some 17)) 18 0 (some 19)) 18 1 (some 20)) 18 2 (some 21)) 18 3 (some 22)) 0 11 (some 18)) 23 0 (some 24)) 23 1 (some 25)) 23 2 (some 26)) rfl rfl rfl)) ?_
  refine z_putR zf8_74 dX8_init_128 (fun h => by cases h) (by decide) rfl ?_
  refine z_aload_n (i := 0) dX8_init_131 rfl rfl ?_
  refine z_iconst (v := 0) dX8_init_132 (by decide) ?_
  refine z_putI zf8_77 dX8_init_133 (fun h => by cases h) (by decide) rfl ?_
  rw [kzz]
  refine z_aload_n (i := 0) dX8_init_136 rfl rfl ?_
  refine z_iconst (v := 0) dX8_init_137 (by decide) ?_
  refine z_putI zf8_81 dX8_init_138 (fun h => by cases h) (by decide) rfl ?_
  rw [kzz]
  refine z_aload_n (i := 0) dX8_init_141 rfl rfl ?_
  refine z_iconst (v := 0) dX8_init_142 (by decide) ?_
  refine z_putI zf8_84 dX8_init_143 (fun h => by cases h) (by decide) rfl ?_
  rw [kzz]
  refine z_vret dX8_init_146 rfl ?_
  subst hQ0
  refine ⟨rfl, _, rfl, ?_, ?_⟩
  rotate_left
  · repeat (refine kClo.put ?_ _ _ _ (by decide))
    exact fun _ _ _ _ h => by cases h
  refine ⟨⟨by decide, by decide, by decide⟩, ⟨rfl, rfl, rfl, rfl, rfl, rfl, rfl, rfl⟩, ⟨rfl, rfl, rfl, rfl, rfl, rfl, rfl⟩, ⟨rfl, rfl, rfl, rfl, rfl, rfl⟩, ⟨by decide, by decide, by decide, rfl, rfl, rfl, rfl, rfl, by decide⟩, ⟨⟨by decide, by decide, rfl, rfl, rfl⟩, ⟨⟨by decide, by decide, by decide, by decide, by decide⟩, ⟨rfl, rfl, rfl, rfl, rfl⟩, ⟨rfl, rfl, rfl, rfl⟩⟩, ⟨⟨by decide, by decide, by decide, by decide⟩, ⟨rfl, rfl, rfl, rfl⟩, ⟨rfl, rfl, rfl⟩, ⟨by decide, by decide, by decide⟩⟩⟩, ⟨⟨⟨by decide, by decide, by decide, by decide, by decide⟩, ⟨rfl, rfl, rfl, rfl, rfl⟩, ⟨rfl, rfl, rfl, rfl⟩, ⟨by decide, by decide, by decide⟩, ⟨by decide, by decide, by decide, by decide⟩, ⟨by decide, by decide, by decide⟩⟩, ⟨⟨by decide, by decide, by decide, by decide, by decide⟩, ⟨rfl, rfl, rfl, rfl, rfl⟩, ⟨rfl, rfl, rfl, rfl⟩, ⟨by decide, by decide, by decide⟩, ⟨by decide, by decide, by decide, by decide⟩, ⟨by decide, by decide, by decide⟩⟩, Or.inl ⟨rfl, rfl⟩⟩, ⟨fun g hg => by omega, fun g h hg => by omega⟩, ⟨fun p hp => by omega, fun p q hp => by omega⟩⟩
