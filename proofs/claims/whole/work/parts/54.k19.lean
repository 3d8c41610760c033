/-! the constructors that only make rows -/
theorem kaC : Cond.arrayClass .char ∈ zTB := zTB_of (by decide +kernel) rfl
/-- the heap with a row more, which field k of b holds -/
def kNa (h : ZH) (b k : Nat) (z : Nat × Nat) : ZH := (h.1 + 1, va_up h.2.1 h.1 z, va_up h.2.2.1 h.1 (fun _ => 0), va_up h.2.2.2.1 h.1 (fun _ => 0), zu (va_up h.2.2.2.2 h.1 (fun _ => none)) b k (some h.1))
theorem ko0_3 : Cond.methodLink RX0 3 Lib.objectInit ∈ zTB := zTB_of (by decide +kernel) rfl
abbrev x0_init : ZX := (RX0, cX0_init, 1, none, "<init>", 1, 40, false)
set_option maxHeartbeats 4000000 in
theorem c0_init (n : Nat) (K : Nat → Nat × Nat) (I : Nat → Nat → Int32) (L : Nat → Nat → Int64) (R : Nat → Nat → Option Nat) (b : Nat) (hba : b < n) (hbk : K b = (5, 0)) : Zm yX0_init cX0_init 1 none 1 40 2 14 [.ref b] (n, K, I, L, R) (fun r h => r = none ∧ h = (kNa (kNa (n, K, I, L, R) b 0 (0, 7)) b 1 (0, 7))) := by
  refine Zm_of (lg := false) (by decide) (fun _ => by simp [Value.category]) (fun _ => Nat.le_of_ble_eq_true rfl) ?_
  show Zf x0_init 2 14 0 (zargs [.ref b]) [] (n, K, I, L, R) _
  refine z_aload_n (i := 0) dX0_init_0 rfl rfl ?_
  refine z_objInit dX0_init_1 ko0_3 koI koC (Nat.le_of_ble_eq_true rfl) (Nat.le_of_ble_eq_true rfl) (Nat.le_of_ble_eq_true rfl) ?_
  refine z_aload_n (i := 0) dX0_init_4 rfl rfl ?_
  refine z_bipush (v := 7) dX0_init_5 (by decide) ?_
  refine z_newI (mc2 := 1) (ms2 := 7) (N := 7) kaI dX0_init_7 (by decide) (by decide) (by omega) (by omega) (by omega) ?_
  refine z_putR zf0_9 dX0_init_9 (fun _ => rfl) (show b < n + 1 by omega) (by rw [va_up_ne _ _ (by omega)]; exact hbk) ?_
  refine z_aload_n (i := 0) dX0_init_12 rfl rfl ?_
  refine z_bipush (v := 7) dX0_init_13 (by decide) ?_
  refine z_newI (mc2 := 0) (ms2 := 0) (N := 7) kaI dX0_init_15 (by decide) (by decide) (by omega) (by omega) (by omega) ?_
  refine z_putR zf0_15 dX0_init_17 (fun _ => rfl) (show b < n + 1 + 1 by omega) (by rw [va_up_ne _ _ (by omega), va_up_ne _ _ (by omega)]; exact hbk) ?_
  refine z_vret dX0_init_20 rfl ?_
  exact ⟨rfl, rfl⟩
theorem ko5_1 : Cond.methodLink RX5 1 Lib.objectInit ∈ zTB := zTB_of (by decide +kernel) rfl
abbrev x5_init : ZX := (RX5, cX5_init, 1, none, "<init>", 1, 40, false)
set_option maxHeartbeats 4000000 in
theorem c5_init (n : Nat) (K : Nat → Nat × Nat) (I : Nat → Nat → Int32) (L : Nat → Nat → Int64) (R : Nat → Nat → Option Nat) (b : Nat) (hba : b < n) (hbk : K b = (10, 0)) : Zm yX5_init cX5_init 1 none 1 40 1 600 [.ref b] (n, K, I, L, R) (fun r h => r = none ∧ h = (kNa (n, K, I, L, R) b 0 (2, 600))) := by
  refine Zm_of (lg := false) (by decide) (fun _ => by simp [Value.category]) (fun _ => Nat.le_of_ble_eq_true rfl) ?_
  show Zf x5_init 1 600 0 (zargs [.ref b]) [] (n, K, I, L, R) _
  refine z_aload_n (i := 0) dX5_init_0 rfl rfl ?_
  refine z_objInit dX5_init_1 ko5_1 koI koC (Nat.le_of_ble_eq_true rfl) (Nat.le_of_ble_eq_true rfl) (Nat.le_of_ble_eq_true rfl) ?_
  refine z_aload_n (i := 0) dX5_init_4 rfl rfl ?_
  refine z_sipush (v := 600) dX5_init_5 (by decide) ?_
  refine z_newC (mc2 := 0) (ms2 := 0) (N := 600) kaC dX5_init_8 (by decide) (by decide) (by omega) (by omega) (by omega) ?_
  refine z_putR zf5_9 dX5_init_10 (fun _ => rfl) (show b < n + 1 by omega) (by rw [va_up_ne _ _ (by omega)]; exact hbk) ?_
  refine z_vret dX5_init_13 rfl ?_
  exact ⟨rfl, rfl⟩
theorem ko6_3 : Cond.methodLink RX6 3 Lib.objectInit ∈ zTB := zTB_of (by decide +kernel) rfl
abbrev x6_init : ZX := (RX6, cX6_init, 1, none, "<init>", 1, 40, false)
set_option maxHeartbeats 4000000 in
theorem c6_init (n : Nat) (K : Nat → Nat × Nat) (I : Nat → Nat → Int32) (L : Nat → Nat → Int64) (R : Nat → Nat → Option Nat) (b : Nat) (hba : b < n) (hbk : K b = (11, 0)) : Zm yX6_init cX6_init 1 none 1 40 3 1803 [.ref b] (n, K, I, L, R) (fun r h => r = none ∧ h = (kNa (kNa (kNa (n, K, I, L, R) b 0 (0, 601)) b 1 (0, 601)) b 2 (0, 601))) := by
  refine Zm_of (lg := false) (by decide) (fun _ => by simp [Value.category]) (fun _ => Nat.le_of_ble_eq_true rfl) ?_
  show Zf x6_init 3 1803 0 (zargs [.ref b]) [] (n, K, I, L, R) _
  refine z_aload_n (i := 0) dX6_init_0 rfl rfl ?_
  refine z_objInit dX6_init_1 ko6_3 koI koC (Nat.le_of_ble_eq_true rfl) (Nat.le_of_ble_eq_true rfl) (Nat.le_of_ble_eq_true rfl) ?_
  refine z_aload_n (i := 0) dX6_init_4 rfl rfl ?_
  refine z_sipush (v := 601) dX6_init_5 (by decide) ?_
  refine z_newI (mc2 := 2) (ms2 := 1202) (N := 601) kaI dX6_init_8 (by decide) (by decide) (by omega) (by omega) (by omega) ?_
  refine z_putR zf6_11 dX6_init_10 (fun _ => rfl) (show b < n + 1 by omega) (by rw [va_up_ne _ _ (by omega)]; exact hbk) ?_
  refine z_aload_n (i := 0) dX6_init_13 rfl rfl ?_
  refine z_sipush (v := 601) dX6_init_14 (by decide) ?_
  refine z_newI (mc2 := 1) (ms2 := 601) (N := 601) kaI dX6_init_17 (by decide) (by decide) (by omega) (by omega) (by omega) ?_
  refine z_putR zf6_15 dX6_init_19 (fun _ => rfl) (show b < n + 1 + 1 by omega) (by rw [va_up_ne _ _ (by omega), va_up_ne _ _ (by omega)]; exact hbk) ?_
  refine z_aload_n (i := 0) dX6_init_22 rfl rfl ?_
  refine z_sipush (v := 601) dX6_init_23 (by decide) ?_
  refine z_newI (mc2 := 0) (ms2 := 0) (N := 601) kaI dX6_init_26 (by decide) (by decide) (by omega) (by omega) (by omega) ?_
  refine z_putR zf6_18 dX6_init_28 (fun _ => rfl) (show b < n + 1 + 1 + 1 by omega) (by rw [va_up_ne _ _ (by omega), va_up_ne _ _ (by omega), va_up_ne _ _ (by omega)]; exact hbk) ?_
  refine z_vret dX6_init_31 rfl ?_
  exact ⟨rfl, rfl⟩
theorem ko4_1 : Cond.methodLink RX4 1 Lib.objectInit ∈ zTB := zTB_of (by decide +kernel) rfl
abbrev x4_init : ZX := (RX4, cX4_init, 1, none, "<init>", 1, 40, false)
set_option maxHeartbeats 4000000 in
theorem c4_init (n : Nat) (K : Nat → Nat × Nat) (I : Nat → Nat → Int32) (L : Nat → Nat → Int64) (R : Nat → Nat → Option Nat) (b : Nat) (hba : b < n) (hbk : K b = (9, 0)) : Zm yX4_init cX4_init 1 none 1 40 4 648 [.ref b] (n, K, I, L, R) (fun r h => r = none ∧ h = (kNa (kNa (kNa (kNa (n, K, I, L, R) b 0 (0, 600)) b 1 (0, 16)) b 2 (0, 16)) b 3 (0, 16))) := by
  refine Zm_of (lg := false) (by decide) (fun _ => by simp [Value.category]) (fun _ => Nat.le_of_ble_eq_true rfl) ?_
  show Zf x4_init 4 648 0 (zargs [.ref b]) [] (n, K, I, L, R) _
  refine z_aload_n (i := 0) dX4_init_0 rfl rfl ?_
  refine z_objInit dX4_init_1 ko4_1 koI koC (Nat.le_of_ble_eq_true rfl) (Nat.le_of_ble_eq_true rfl) (Nat.le_of_ble_eq_true rfl) ?_
  refine z_aload_n (i := 0) dX4_init_4 rfl rfl ?_
  refine z_sipush (v := 600) dX4_init_5 (by decide) ?_
  refine z_newI (mc2 := 3) (ms2 := 48) (N := 600) kaI dX4_init_8 (by decide) (by decide) (by omega) (by omega) (by omega) ?_
  refine z_putR zf4_9 dX4_init_10 (fun _ => rfl) (show b < n + 1 by omega) (by rw [va_up_ne _ _ (by omega)]; exact hbk) ?_
  refine z_aload_n (i := 0) dX4_init_13 rfl rfl ?_
  refine z_bipush (v := 16) dX4_init_14 (by decide) ?_
  refine z_newI (mc2 := 2) (ms2 := 32) (N := 16) kaI dX4_init_16 (by decide) (by decide) (by omega) (by omega) (by omega) ?_
  refine z_putR zf4_15 dX4_init_18 (fun _ => rfl) (show b < n + 1 + 1 by omega) (by rw [va_up_ne _ _ (by omega), va_up_ne _ _ (by omega)]; exact hbk) ?_
  refine z_aload_n (i := 0) dX4_init_21 rfl rfl ?_
  refine z_bipush (v := 16) dX4_init_22 (by decide) ?_
  refine z_newI (mc2 := 1) (ms2 := 16) (N := 16) kaI dX4_init_24 (by decide) (by decide) (by omega) (by omega) (by omega) ?_
  refine z_putR zf4_18 dX4_init_26 (fun _ => rfl) (show b < n + 1 + 1 + 1 by omega) (by rw [va_up_ne _ _ (by omega), va_up_ne _ _ (by omega), va_up_ne _ _ (by omega)]; exact hbk) ?_
  refine z_aload_n (i := 0) dX4_init_29 rfl rfl ?_
  refine z_bipush (v := 16) dX4_init_30 (by decide) ?_
  refine z_newI (mc2 := 0) (ms2 := 0) (N := 16) kaI dX4_init_32 (by decide) (by decide) (by omega) (by omega) (by omega) ?_
  refine z_putR zf4_21 dX4_init_34 (fun _ => rfl) (show b < n + 1 + 1 + 1 + 1 by omega) (by rw [va_up_ne _ _ (by omega), va_up_ne _ _ (by omega), va_up_ne _ _ (by omega), va_up_ne _ _ (by omega)]; exact hbk) ?_
  refine z_vret dX4_init_37 rfl ?_
  exact ⟨rfl, rfl⟩
theorem ko3_3 : Cond.methodLink RX3 3 Lib.objectInit ∈ zTB := zTB_of (by decide +kernel) rfl
abbrev x3_init : ZX := (RX3, cX3_init, 2, none, "<init>", 1, 40, false)
theorem c3_init (n : Nat) (K : Nat → Nat × Nat) (I : Nat → Nat → Int32) (L : Nat → Nat → Int64) (R : Nat → Nat → Option Nat) (b t : Nat) (hba : b < n) (hbk : K b = (8, 0)) : Zm yX3_init cX3_init 2 none 1 40 0 0 [.ref b, .ref t] (n, K, I, L, R) (kQ none n K I L (zu R b 0 (some t))) := by
  refine Zm_of (lg := false) (by decide) (fun _ => by simp [Value.category]) (fun _ => Nat.le_of_ble_eq_true rfl) ?_
  show Zf x3_init 0 0 0 (zargs [.ref b, .ref t]) [] (n, K, I, L, R) _
  refine z_aload_n (i := 0) dX3_init_0 rfl rfl ?_
  refine z_objInit dX3_init_1 ko3_3 koI koC (Nat.le_of_ble_eq_true rfl) (Nat.le_of_ble_eq_true rfl) (Nat.le_of_ble_eq_true rfl) ?_
  refine z_aload_n (i := 0) dX3_init_4 rfl rfl ?_
  refine z_aload_n (i := 1) dX3_init_5 rfl rfl ?_
  refine z_putR zf3_9 dX3_init_6 (fun _ => rfl) hba hbk ?_
  refine z_vret dX3_init_9 rfl ?_
  exact ⟨rfl, rfl⟩
